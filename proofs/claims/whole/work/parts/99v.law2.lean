/-! the law: one call of the class, then the same of the model -/
theorem law_stave (g : Gl) (QF : QFT) (σ : St) (A : Ab) (N k n : Nat) (i : Int) (hC : CL σ A) (hM : MR σ A) (hA : AI A N) (hN : N ≤ 90000) (hi : 0 ≤ i ∧ i + 6 ≤ (gL0 g : Int) ∧ gL0 g ≤ 3072) (hk : k ≤ 500000) (hn : n ≤ 5000000) (K : LC g QF i N k n) : V g mL_law room_1 QF 192 [some (vq (some 4)), some (vq (some 8)), some (vq (some 77)), some (vi i)] [] k n σ := by
  have hS := hC.1
  refine V_aload_n dL_law_192 rfl ?_
  refine V_aload_n dL_law_193 rfl ?_
  refine V_iload_n dL_law_194 rfl ?_
  refine V_iconst dL_law_195 ?_
  refine V_iadd dL_law_196 ?_
  refine V_rold dL_law_197 (by decide) (show 0 ≤ i + 1 ∧ i + 1 < (gL0 g : Int) by omega) ?_
  refine V_aload_n dL_law_198 rfl ?_
  refine V_iload_n dL_law_199 rfl ?_
  refine V_iconst dL_law_200 ?_
  refine V_iadd dL_law_201 ?_
  refine V_rold dL_law_202 (by decide) (show 0 ≤ i + 2 ∧ i + 2 < (gL0 g : Int) by omega) ?_
  refine V_aload_n dL_law_203 rfl ?_
  refine V_iload_n dL_law_204 rfl ?_
  refine V_iconst dL_law_205 ?_
  refine V_iadd dL_law_206 ?_
  refine V_rold dL_law_207 (by decide) (show 0 ≤ i + 3 ∧ i + 3 < (gL0 g : Int) by omega) ?_
  refine V_aload_n dL_law_208 rfl ?_
  refine V_iload_n dL_law_209 rfl ?_
  refine V_iconst dL_law_210 ?_
  refine V_iadd dL_law_211 ?_
  refine V_rold dL_law_212 (by decide) (show 0 ≤ i + 4 ∧ i + 4 < (gL0 g : Int) by omega) ?_
  refine V_callV dL_law_213 (c_stave g _ A N hC hA _ _ _ _ (ro_b g _) (ro_b g _) (ro_b g _) (ro_b g _)) sv_RL_13 (sh hS rfl) rfl ⟨⟨by decide, by decide⟩, ⟨(show k + 1 ≤ 600000 by omega), (show n + 4 ≤ 7302250 by omega)⟩⟩ (Nat.le_of_ble_eq_true rfl) (fun r213 s213 p213 => ?_)
  obtain ⟨rfl, hC1, hF⟩ := p213
  have hS := hC1.1
  have hM1 := hM.fm hF hS
  refine V_aload_n dL_law_216 rfl ?_
  refine V_aload_n dL_law_217 rfl ?_
  refine V_iload_n dL_law_218 rfl ?_
  refine V_iconst dL_law_219 ?_
  refine V_iadd dL_law_220 ?_
  refine V_rold dL_law_221 (by decide) (show 0 ≤ i + 1 ∧ i + 1 < (gL0 g : Int) by omega) ?_
  refine V_aload_n dL_law_222 rfl ?_
  refine V_iload_n dL_law_223 rfl ?_
  refine V_iconst dL_law_224 ?_
  refine V_iadd dL_law_225 ?_
  refine V_rold dL_law_226 (by decide) (show 0 ≤ i + 2 ∧ i + 2 < (gL0 g : Int) by omega) ?_
  refine V_aload_n dL_law_227 rfl ?_
  refine V_iload_n dL_law_228 rfl ?_
  refine V_iconst dL_law_229 ?_
  refine V_iadd dL_law_230 ?_
  refine V_rold dL_law_231 (by decide) (show 0 ≤ i + 3 ∧ i + 3 < (gL0 g : Int) by omega) ?_
  refine V_aload_n dL_law_232 rfl ?_
  refine V_iload_n dL_law_233 rfl ?_
  refine V_iconst dL_law_234 ?_
  refine V_iadd dL_law_235 ?_
  refine V_rold dL_law_236 (by decide) (show 0 ≤ i + 4 ∧ i + 4 < (gL0 g : Int) by omega) ?_
  refine V_callV dL_law_237 (c_mStave g _ A N hM1 hA _ _ _ _ (ro_b g _) (ro_b g _) (ro_b g _) (ro_b g _)) sv_RL_17 (sh hS rfl) rfl ⟨⟨by decide, by decide⟩, ⟨(show k + 1 + 0 ≤ 600000 by omega), (show n + 4 + 0 ≤ 7302250 by omega)⟩⟩ (Nat.le_of_ble_eq_true rfl) (fun r237 s237 p237 => ?_)
  obtain ⟨rfl, hM2, hFC⟩ := p237
  refine V_mask [true, true, true, true] ?_
  refine V_icmpS dL_law_240 (tgt := 1381) (by decide) ?_
  exact K _ _ _ _ (hC1.fc hFC) hM2 ((hA.stave _ _ _ _).mono (by omega)) (show k + 1 + 0 ≤ _ by omega) (show n + 4 + 0 ≤ _ by omega)
theorem law_hoop (g : Gl) (QF : QFT) (σ : St) (A : Ab) (N k n : Nat) (i : Int) (hC : CL σ A) (hM : MR σ A) (hA : AI A N) (hN : N ≤ 90000) (hi : 0 ≤ i ∧ i + 6 ≤ (gL0 g : Int) ∧ gL0 g ≤ 3072) (hk : k ≤ 500000) (hn : n ≤ 5000000) (K : LC g QF i N k n) : V g mL_law room_1 QF 245 [some (vq (some 4)), some (vq (some 8)), some (vq (some 77)), some (vi i)] [] k n σ := by
  have hS := hC.1
  refine V_aload_n dL_law_245 rfl ?_
  refine V_aload_n dL_law_246 rfl ?_
  refine V_iload_n dL_law_247 rfl ?_
  refine V_iconst dL_law_248 ?_
  refine V_iadd dL_law_249 ?_
  refine V_rold dL_law_250 (by decide) (show 0 ≤ i + 1 ∧ i + 1 < (gL0 g : Int) by omega) ?_
  refine V_aload_n dL_law_251 rfl ?_
  refine V_iload_n dL_law_252 rfl ?_
  refine V_iconst dL_law_253 ?_
  refine V_iadd dL_law_254 ?_
  refine V_rold dL_law_255 (by decide) (show 0 ≤ i + 2 ∧ i + 2 < (gL0 g : Int) by omega) ?_
  refine V_aload_n dL_law_256 rfl ?_
  refine V_iload_n dL_law_257 rfl ?_
  refine V_iconst dL_law_258 ?_
  refine V_iadd dL_law_259 ?_
  refine V_rold dL_law_260 (by decide) (show 0 ≤ i + 3 ∧ i + 3 < (gL0 g : Int) by omega) ?_
  refine V_callV dL_law_261 (c_hoop g _ A N hC hA _ _ _ (ro_b g _) (ro_b g _) (ro_b g _)) sv_RL_18 (sh hS rfl) rfl ⟨⟨by decide, by decide⟩, ⟨(show k + 1 ≤ 600000 by omega), (show n + 3 ≤ 7302250 by omega)⟩⟩ (Nat.le_of_ble_eq_true rfl) (fun r261 s261 p261 => ?_)
  obtain ⟨rfl, hC1, hF⟩ := p261
  have hS := hC1.1
  have hM1 := hM.fm hF hS
  refine V_aload_n dL_law_264 rfl ?_
  refine V_aload_n dL_law_265 rfl ?_
  refine V_iload_n dL_law_266 rfl ?_
  refine V_iconst dL_law_267 ?_
  refine V_iadd dL_law_268 ?_
  refine V_rold dL_law_269 (by decide) (show 0 ≤ i + 1 ∧ i + 1 < (gL0 g : Int) by omega) ?_
  refine V_aload_n dL_law_270 rfl ?_
  refine V_iload_n dL_law_271 rfl ?_
  refine V_iconst dL_law_272 ?_
  refine V_iadd dL_law_273 ?_
  refine V_rold dL_law_274 (by decide) (show 0 ≤ i + 2 ∧ i + 2 < (gL0 g : Int) by omega) ?_
  refine V_aload_n dL_law_275 rfl ?_
  refine V_iload_n dL_law_276 rfl ?_
  refine V_iconst dL_law_277 ?_
  refine V_iadd dL_law_278 ?_
  refine V_rold dL_law_279 (by decide) (show 0 ≤ i + 3 ∧ i + 3 < (gL0 g : Int) by omega) ?_
  refine V_callV dL_law_280 (c_mHoop g _ A N hM1 hA _ _ _ (ro_b g _) (ro_b g _) (ro_b g _)) sv_RL_22 (sh hS rfl) rfl ⟨⟨by decide, by decide⟩, ⟨(show k + 1 + 0 ≤ 600000 by omega), (show n + 3 + 0 ≤ 7302250 by omega)⟩⟩ (Nat.le_of_ble_eq_true rfl) (fun r280 s280 p280 => ?_)
  obtain ⟨rfl, hM2, hFC⟩ := p280
  refine V_mask [true, true, true, true] ?_
  refine V_icmpS dL_law_283 (tgt := 1381) (by decide) ?_
  exact K _ _ _ _ (hC1.fc hFC) hM2 ((hA.hoop _ _ _).mono (by omega)) (show k + 1 + 0 ≤ _ by omega) (show n + 3 + 0 ≤ _ by omega)
theorem law_board (g : Gl) (QF : QFT) (σ : St) (A : Ab) (N k n : Nat) (i : Int) (hC : CL σ A) (hM : MR σ A) (hA : AI A N) (hN : N ≤ 90000) (hi : 0 ≤ i ∧ i + 6 ≤ (gL0 g : Int) ∧ gL0 g ≤ 3072) (hk : k ≤ 500000) (hn : n ≤ 5000000) (K : LC g QF i N k n) : V g mL_law room_1 QF 288 [some (vq (some 4)), some (vq (some 8)), some (vq (some 77)), some (vi i)] [] k n σ := by
  have hS := hC.1
  refine V_aload_n dL_law_288 rfl ?_
  refine V_aload_n dL_law_289 rfl ?_
  refine V_iload_n dL_law_290 rfl ?_
  refine V_iconst dL_law_291 ?_
  refine V_iadd dL_law_292 ?_
  refine V_rold dL_law_293 (by decide) (show 0 ≤ i + 1 ∧ i + 1 < (gL0 g : Int) by omega) ?_
  refine V_callV dL_law_294 (c_board g _ A N hC hA _ (ro_b g _)) sv_RL_23 (sh hS rfl) rfl ⟨⟨by decide, by decide⟩, ⟨(show k + 1 ≤ 600000 by omega), (show n + 1 ≤ 7302250 by omega)⟩⟩ (Nat.le_of_ble_eq_true rfl) (fun r294 s294 p294 => ?_)
  obtain ⟨rfl, hC1, hF⟩ := p294
  have hS := hC1.1
  have hM1 := hM.fm hF hS
  refine V_aload_n dL_law_297 rfl ?_
  refine V_aload_n dL_law_298 rfl ?_
  refine V_iload_n dL_law_299 rfl ?_
  refine V_iconst dL_law_300 ?_
  refine V_iadd dL_law_301 ?_
  refine V_rold dL_law_302 (by decide) (show 0 ≤ i + 1 ∧ i + 1 < (gL0 g : Int) by omega) ?_
  refine V_callV dL_law_303 (c_mBoard g _ A N hM1 hA _ (ro_b g _)) sv_RL_27 (sh hS rfl) rfl ⟨⟨by decide, by decide⟩, ⟨(show k + 1 + 0 ≤ 600000 by omega), (show n + 1 + 0 ≤ 7302250 by omega)⟩⟩ (Nat.le_of_ble_eq_true rfl) (fun r303 s303 p303 => ?_)
  obtain ⟨rfl, hM2, hFC⟩ := p303
  refine V_mask [true, true, true, true] ?_
  refine V_icmpS dL_law_306 (tgt := 1381) (by decide) ?_
  exact K _ _ _ _ (hC1.fc hFC) hM2 ((hA.board _).mono (by omega)) (show k + 1 + 0 ≤ _ by omega) (show n + 1 + 0 ≤ _ by omega)
theorem law_rule (g : Gl) (QF : QFT) (σ : St) (A : Ab) (N k n : Nat) (i : Int) (hC : CL σ A) (hM : MR σ A) (hA : AI A N) (hN : N ≤ 90000) (hi : 0 ≤ i ∧ i + 6 ≤ (gL0 g : Int) ∧ gL0 g ≤ 3072) (hk : k ≤ 500000) (hn : n ≤ 5000000) (K : LC g QF i N k n) : V g mL_law room_1 QF 311 [some (vq (some 4)), some (vq (some 8)), some (vq (some 77)), some (vi i)] [] k n σ := by
  have hS := hC.1
  refine V_aload_n dL_law_311 rfl ?_
  refine V_aload_n dL_law_312 rfl ?_
  refine V_iload_n dL_law_313 rfl ?_
  refine V_iconst dL_law_314 ?_
  refine V_iadd dL_law_315 ?_
  refine V_rold dL_law_316 (by decide) (show 0 ≤ i + 1 ∧ i + 1 < (gL0 g : Int) by omega) ?_
  refine V_aload_n dL_law_317 rfl ?_
  refine V_iload_n dL_law_318 rfl ?_
  refine V_iconst dL_law_319 ?_
  refine V_iadd dL_law_320 ?_
  refine V_rold dL_law_321 (by decide) (show 0 ≤ i + 2 ∧ i + 2 < (gL0 g : Int) by omega) ?_
  refine V_callV dL_law_322 (c_rule g _ A N hC hA _ _ (ro_b g _) (ro_b g _)) sv_RL_28 (sh hS rfl) rfl ⟨⟨by decide, by decide⟩, ⟨(show k + 0 ≤ 600000 by omega), (show n + 0 ≤ 7302250 by omega)⟩⟩ (Nat.le_of_ble_eq_true rfl) (fun r322 s322 p322 => ?_)
  obtain ⟨rfl, hC1, hF⟩ := p322
  have hS := hC1.1
  have hM1 := hM.fm hF hS
  refine V_aload_n dL_law_325 rfl ?_
  refine V_aload_n dL_law_326 rfl ?_
  refine V_iload_n dL_law_327 rfl ?_
  refine V_iconst dL_law_328 ?_
  refine V_iadd dL_law_329 ?_
  refine V_rold dL_law_330 (by decide) (show 0 ≤ i + 1 ∧ i + 1 < (gL0 g : Int) by omega) ?_
  refine V_aload_n dL_law_331 rfl ?_
  refine V_iload_n dL_law_332 rfl ?_
  refine V_iconst dL_law_333 ?_
  refine V_iadd dL_law_334 ?_
  refine V_rold dL_law_335 (by decide) (show 0 ≤ i + 2 ∧ i + 2 < (gL0 g : Int) by omega) ?_
  refine V_callV dL_law_336 (c_mRule g _ A hM1 _ _ (ro_b g _) (ro_b g _)) sv_RL_32 (sh hS rfl) rfl ⟨⟨by decide, by decide⟩, ⟨(show k + 0 + 0 ≤ 600000 by omega), (show n + 0 + 0 ≤ 7302250 by omega)⟩⟩ (Nat.le_of_ble_eq_true rfl) (fun r336 s336 p336 => ?_)
  obtain ⟨rfl, hM2, hFC⟩ := p336
  refine V_mask [true, true, true, true] ?_
  refine V_icmpS dL_law_339 (tgt := 1381) (by decide) ?_
  exact K _ _ _ _ (hC1.fc hFC) hM2 ((hA.rules _ _).mono (by omega)) (show k + 0 + 0 ≤ _ by omega) (show n + 0 + 0 ≤ _ by omega)
theorem law_told (g : Gl) (QF : QFT) (σ : St) (A : Ab) (N k n : Nat) (i : Int) (hC : CL σ A) (hM : MR σ A) (hA : AI A N) (hN : N ≤ 90000) (hi : 0 ≤ i ∧ i + 6 ≤ (gL0 g : Int) ∧ gL0 g ≤ 3072) (hk : k ≤ 500000) (hn : n ≤ 5000000) (K : LC g QF i N k n) : V g mL_law room_1 QF 344 [some (vq (some 4)), some (vq (some 8)), some (vq (some 77)), some (vi i)] [] k n σ := by
  have hS := hC.1
  refine V_aload_n dL_law_344 rfl ?_
  refine V_aload_n dL_law_345 rfl ?_
  refine V_iload_n dL_law_346 rfl ?_
  refine V_iconst dL_law_347 ?_
  refine V_iadd dL_law_348 ?_
  refine V_rold dL_law_349 (by decide) (show 0 ≤ i + 1 ∧ i + 1 < (gL0 g : Int) by omega) ?_
  refine V_callV dL_law_350 (c_told g _ A N hC hA _ (ro_b g _)) sv_RL_33 (sh hS rfl) rfl ⟨⟨by decide, by decide⟩, ⟨(show k + 0 ≤ 600000 by omega), (show n + 0 ≤ 7302250 by omega)⟩⟩ (Nat.le_of_ble_eq_true rfl) (fun r350 s350 p350 => ?_)
  obtain ⟨rfl, hC1, hF⟩ := rP.c hC p350
  have hS := hC1.1
  have hM1 := hM.fm hF hS
  refine V_aload_n dL_law_353 rfl ?_
  refine V_aload_n dL_law_354 rfl ?_
  refine V_iload_n dL_law_355 rfl ?_
  refine V_iconst dL_law_356 ?_
  refine V_iadd dL_law_357 ?_
  refine V_rold dL_law_358 (by decide) (show 0 ≤ i + 1 ∧ i + 1 < (gL0 g : Int) by omega) ?_
  refine V_callV dL_law_359 (c_mTold g _ A hM1 _ (ro_b g _)) sv_RL_36 (sh hS rfl) rfl ⟨⟨by decide, by decide⟩, ⟨(show k + 0 + 0 ≤ 600000 by omega), (show n + 0 + 0 ≤ 7302250 by omega)⟩⟩ (Nat.le_of_ble_eq_true rfl) (fun r359 s359 p359 => ?_)
  obtain ⟨rfl, hM2, hFC⟩ := rP.m hM1 p359
  refine V_mask [true, true, true, true] ?_
  refine V_icmpS dL_law_362 (tgt := 1381) (by decide) ?_
  exact K _ _ _ _ (hC1.fc hFC) hM2 (hA.mono (by omega)) (show k + 0 + 0 ≤ _ by omega) (show n + 0 + 0 ≤ _ by omega)
theorem law_ofStave (g : Gl) (QF : QFT) (σ : St) (A : Ab) (N k n : Nat) (i : Int) (hC : CL σ A) (hM : MR σ A) (hA : AI A N) (hN : N ≤ 90000) (hi : 0 ≤ i ∧ i + 6 ≤ (gL0 g : Int) ∧ gL0 g ≤ 3072) (hk : k ≤ 500000) (hn : n ≤ 5000000) (K : LC g QF i N k n) : V g mL_law room_1 QF 367 [some (vq (some 4)), some (vq (some 8)), some (vq (some 77)), some (vi i)] [] k n σ := by
  have hS := hC.1
  have hX := hC.xs hA
  refine V_aload_n dL_law_367 rfl ?_
  refine V_aload_n dL_law_368 rfl ?_
  refine V_iload_n dL_law_369 rfl ?_
  refine V_iconst dL_law_370 ?_
  refine V_iadd dL_law_371 ?_
  refine V_rold dL_law_372 (by decide) (show 0 ≤ i + 1 ∧ i + 1 < (gL0 g : Int) by omega) ?_
  refine V_aload_n dL_law_373 rfl ?_
  refine V_iload_n dL_law_374 rfl ?_
  refine V_iconst dL_law_375 ?_
  refine V_iadd dL_law_376 ?_
  refine V_rold dL_law_377 (by decide) (show 0 ≤ i + 2 ∧ i + 2 < (gL0 g : Int) by omega) ?_
  refine V_callV dL_law_378 (c_ofStave g _ (aW A) hX _ _ (ro_b g _) (ro_b g _)) sv_RL_37 (sh hS rfl) rfl ⟨⟨by decide, by decide⟩, ⟨(show k + 0 ≤ 600000 by omega), (show n + 0 ≤ 7302250 by omega)⟩⟩ (Nat.le_of_ble_eq_true rfl) (fun r378 s378 p378 => ?_)
  obtain ⟨rfl, hC1, hF⟩ := rP.c hC p378
  have hS := hC1.1
  have hM1 := hM.fm hF hS
  have hMX : MX s378 (aW A) := ⟨hS, hM1.2.1.1, hA.1⟩
  refine V_aload_n dL_law_381 rfl ?_
  refine V_aload_n dL_law_382 rfl ?_
  refine V_iload_n dL_law_383 rfl ?_
  refine V_iconst dL_law_384 ?_
  refine V_iadd dL_law_385 ?_
  refine V_rold dL_law_386 (by decide) (show 0 ≤ i + 1 ∧ i + 1 < (gL0 g : Int) by omega) ?_
  refine V_aload_n dL_law_387 rfl ?_
  refine V_iload_n dL_law_388 rfl ?_
  refine V_iconst dL_law_389 ?_
  refine V_iadd dL_law_390 ?_
  refine V_rold dL_law_391 (by decide) (show 0 ≤ i + 2 ∧ i + 2 < (gL0 g : Int) by omega) ?_
  refine V_callV dL_law_392 (c_mOfStave g _ (aW A) hMX _ _ (ro_b g _) (ro_b g _)) sv_RL_40 (sh hS rfl) rfl ⟨⟨by decide, by decide⟩, ⟨(show k + 0 + 0 ≤ 600000 by omega), (show n + 0 + 0 ≤ 7302250 by omega)⟩⟩ (Nat.le_of_ble_eq_true rfl) (fun r392 s392 p392 => ?_)
  obtain ⟨rfl, hM2, hFC⟩ := rP.m hM1 p392
  refine V_mask [true, true, true, true] ?_
  refine V_icmpS dL_law_395 (tgt := 1381) (by decide) ?_
  exact K _ _ _ _ (hC1.fc hFC) hM2 (hA.mono (by omega)) (show k + 0 + 0 ≤ _ by omega) (show n + 0 + 0 ≤ _ by omega)
theorem law_takes (g : Gl) (QF : QFT) (σ : St) (A : Ab) (N k n : Nat) (i : Int) (hC : CL σ A) (hM : MR σ A) (hA : AI A N) (hN : N ≤ 90000) (hi : 0 ≤ i ∧ i + 6 ≤ (gL0 g : Int) ∧ gL0 g ≤ 3072) (hk : k ≤ 500000) (hn : n ≤ 5000000) (K : LC g QF i N k n) : V g mL_law room_1 QF 400 [some (vq (some 4)), some (vq (some 8)), some (vq (some 77)), some (vi i)] [] k n σ := by
  have hS := hC.1
  refine V_aload_n dL_law_400 rfl ?_
  refine V_aload_n dL_law_401 rfl ?_
  refine V_iload_n dL_law_402 rfl ?_
  refine V_iconst dL_law_403 ?_
  refine V_iadd dL_law_404 ?_
  refine V_rold dL_law_405 (by decide) (show 0 ≤ i + 1 ∧ i + 1 < (gL0 g : Int) by omega) ?_
  refine V_callV dL_law_406 (c_takes g _ A N hC hA _ (ro_b g _)) sv_RL_41 (sh hS rfl) rfl ⟨⟨by decide, by decide⟩, ⟨(show k + 0 ≤ 600000 by omega), (show n + 0 ≤ 7302250 by omega)⟩⟩ (Nat.le_of_ble_eq_true rfl) (fun r406 s406 p406 => ?_)
  obtain ⟨rfl, hC1, hF⟩ := p406
  have hS := hC1.1
  have hM1 := hM.fm hF hS
  refine V_aload_n dL_law_409 rfl ?_
  refine V_aload_n dL_law_410 rfl ?_
  refine V_iload_n dL_law_411 rfl ?_
  refine V_iconst dL_law_412 ?_
  refine V_iadd dL_law_413 ?_
  refine V_rold dL_law_414 (by decide) (show 0 ≤ i + 1 ∧ i + 1 < (gL0 g : Int) by omega) ?_
  refine V_callV dL_law_415 (c_mTakes g _ A N hM1 hA _ (ro_b g _)) sv_RL_44 (sh hS rfl) rfl ⟨⟨by decide, by decide⟩, ⟨(show k + 0 + 0 ≤ 600000 by omega), (show n + 0 + 0 ≤ 7302250 by omega)⟩⟩ (Nat.le_of_ble_eq_true rfl) (fun r415 s415 p415 => ?_)
  obtain ⟨rfl, hM2, hFC⟩ := p415
  refine V_mask [true, true, true, true] ?_
  refine V_icmpS dL_law_418 (tgt := 1381) (by decide) ?_
  exact K _ _ _ _ (hC1.fc hFC) hM2 ((hA.takes _).mono (by omega)) (show k + 0 + 0 ≤ _ by omega) (show n + 0 + 0 ≤ _ by omega)
theorem law_shave (g : Gl) (QF : QFT) (σ : St) (A : Ab) (N k n : Nat) (i : Int) (hC : CL σ A) (hM : MR σ A) (hA : AI A N) (hN : N ≤ 90000) (hi : 0 ≤ i ∧ i + 6 ≤ (gL0 g : Int) ∧ gL0 g ≤ 3072) (hk : k ≤ 500000) (hn : n ≤ 5000000) (K : LC g QF i N k n) : V g mL_law room_1 QF 423 [some (vq (some 4)), some (vq (some 8)), some (vq (some 77)), some (vi i)] [] k n σ := by
  have hS := hC.1
  refine V_aload_n dL_law_423 rfl ?_
  refine V_aload_n dL_law_424 rfl ?_
  refine V_iload_n dL_law_425 rfl ?_
  refine V_iconst dL_law_426 ?_
  refine V_iadd dL_law_427 ?_
  refine V_rold dL_law_428 (by decide) (show 0 ≤ i + 1 ∧ i + 1 < (gL0 g : Int) by omega) ?_
  refine V_aload_n dL_law_429 rfl ?_
  refine V_iload_n dL_law_430 rfl ?_
  refine V_iconst dL_law_431 ?_
  refine V_iadd dL_law_432 ?_
  refine V_rold dL_law_433 (by decide) (show 0 ≤ i + 2 ∧ i + 2 < (gL0 g : Int) by omega) ?_
  refine V_callV dL_law_434 (c_shave g _ A N hC hA _ _ (ro_b g _) (ro_b g _)) sv_RL_45 (sh hS rfl) rfl ⟨⟨by decide, by decide⟩, ⟨(show k + 0 ≤ 600000 by omega), (show n + 0 ≤ 7302250 by omega)⟩⟩ (Nat.le_of_ble_eq_true rfl) (fun r434 s434 p434 => ?_)
  obtain ⟨rfl, hC1, hF⟩ := p434
  have hS := hC1.1
  have hM1 := hM.fm hF hS
  refine V_aload_n dL_law_437 rfl ?_
  refine V_aload_n dL_law_438 rfl ?_
  refine V_iload_n dL_law_439 rfl ?_
  refine V_iconst dL_law_440 ?_
  refine V_iadd dL_law_441 ?_
  refine V_rold dL_law_442 (by decide) (show 0 ≤ i + 1 ∧ i + 1 < (gL0 g : Int) by omega) ?_
  refine V_aload_n dL_law_443 rfl ?_
  refine V_iload_n dL_law_444 rfl ?_
  refine V_iconst dL_law_445 ?_
  refine V_iadd dL_law_446 ?_
  refine V_rold dL_law_447 (by decide) (show 0 ≤ i + 2 ∧ i + 2 < (gL0 g : Int) by omega) ?_
  refine V_callV dL_law_448 (c_mShave g _ A N (by omega) hM1 hA _ _ (ro_b g _) (ro_b g _)) sv_RL_48 (sh hS rfl) rfl ⟨⟨by decide, by decide⟩, ⟨(show k + 0 + 0 ≤ 600000 by omega), (show n + 0 + 0 ≤ 7302250 by omega)⟩⟩ (Nat.le_of_ble_eq_true rfl) (fun r448 s448 p448 => ?_)
  obtain ⟨rfl, hM2, hFC⟩ := p448
  refine V_mask [true, true, true, true] ?_
  refine V_icmpS dL_law_451 (tgt := 1381) (by decide) ?_
  exact K _ _ _ _ (hC1.fc hFC) hM2 ((hA.shave _ _).mono (by omega)) (show k + 0 + 0 ≤ _ by omega) (show n + 0 + 0 ≤ _ by omega)
theorem law_fits (g : Gl) (QF : QFT) (σ : St) (A : Ab) (N k n : Nat) (i : Int) (hC : CL σ A) (hM : MR σ A) (hA : AI A N) (hN : N ≤ 90000) (hi : 0 ≤ i ∧ i + 6 ≤ (gL0 g : Int) ∧ gL0 g ≤ 3072) (hk : k ≤ 500000) (hn : n ≤ 5000000) (K : LC g QF i N k n) : V g mL_law room_1 QF 456 [some (vq (some 4)), some (vq (some 8)), some (vq (some 77)), some (vi i)] [] k n σ := by
  have hS := hC.1
  have hX := hC.xs hA
  have hz := hC.2.2.1
  refine V_aload_n dL_law_456 rfl ?_
  refine V_aload_n dL_law_457 rfl ?_
  refine V_iload_n dL_law_458 rfl ?_
  refine V_iconst dL_law_459 ?_
  refine V_iadd dL_law_460 ?_
  refine V_rold dL_law_461 (by decide) (show 0 ≤ i + 1 ∧ i + 1 < (gL0 g : Int) by omega) ?_
  refine V_callV dL_law_462 (c_fits g _ (aW A) hX hz _ (ro_b g _)) sv_RL_49 (sh hS rfl) rfl ⟨⟨by decide, by decide⟩, ⟨(show k + 0 ≤ 600000 by omega), (show n + 0 ≤ 7302250 by omega)⟩⟩ (Nat.le_of_ble_eq_true rfl) (fun r462 s462 p462 => ?_)
  obtain ⟨rfl, hC1, hF⟩ := PX.c hC p462
  have hS := hC1.1
  have hM1 := hM.fm hF hS
  have hMX : MX s462 (aW A) := ⟨hS, hM1.2.1.1, hA.1⟩
  refine V_aload_n dL_law_465 rfl ?_
  refine V_aload_n dL_law_466 rfl ?_
  refine V_iload_n dL_law_467 rfl ?_
  refine V_iconst dL_law_468 ?_
  refine V_iadd dL_law_469 ?_
  refine V_rold dL_law_470 (by decide) (show 0 ≤ i + 1 ∧ i + 1 < (gL0 g : Int) by omega) ?_
  refine V_callV dL_law_471 (c_mFits g _ (aW A) hMX _ (ro_b g _)) sv_RL_52 (sh hS rfl) rfl ⟨⟨by decide, by decide⟩, ⟨(show k + 0 + 0 ≤ 600000 by omega), (show n + 0 + 0 ≤ 7302250 by omega)⟩⟩ (Nat.le_of_ble_eq_true rfl) (fun r471 s471 p471 => ?_)
  obtain ⟨rfl, hM2, hFC⟩ := rP.m hM1 p471
  refine V_mask [true, true, true, true] ?_
  refine V_icmpS dL_law_474 (tgt := 1381) (by decide) ?_
  exact K _ _ _ _ (hC1.fc hFC) hM2 (hA.mono (by omega)) (show k + 0 + 0 ≤ _ by omega) (show n + 0 + 0 ≤ _ by omega)
theorem law_sums (g : Gl) (QF : QFT) (σ : St) (A : Ab) (N k n : Nat) (i : Int) (hC : CL σ A) (hM : MR σ A) (hA : AI A N) (hN : N ≤ 90000) (hi : 0 ≤ i ∧ i + 6 ≤ (gL0 g : Int) ∧ gL0 g ≤ 3072) (hk : k ≤ 500000) (hn : n ≤ 5000000) (K : LC g QF i N k n) : V g mL_law room_1 QF 479 [some (vq (some 4)), some (vq (some 8)), some (vq (some 77)), some (vi i)] [] k n σ := by
  have hS := hC.1
  have hX := hC.xs hA
  have hz := hC.2.2.1
  refine V_aload_n dL_law_479 rfl ?_
  refine V_aload_n dL_law_480 rfl ?_
  refine V_iload_n dL_law_481 rfl ?_
  refine V_iconst dL_law_482 ?_
  refine V_iadd dL_law_483 ?_
  refine V_rold dL_law_484 (by decide) (show 0 ≤ i + 1 ∧ i + 1 < (gL0 g : Int) by omega) ?_
  refine V_callV dL_law_485 (c_sums g _ (aW A) hX hz _ (ro_b g _)) sv_RL_53 (sh hS rfl) rfl ⟨⟨by decide, by decide⟩, ⟨(show k + 0 ≤ 600000 by omega), (show n + 0 ≤ 7302250 by omega)⟩⟩ (Nat.le_of_ble_eq_true rfl) (fun r485 s485 p485 => ?_)
  obtain ⟨rfl, hC1, hF⟩ := PX.c hC p485
  have hS := hC1.1
  have hM1 := hM.fm hF hS
  have hMX : MX s485 (aW A) := ⟨hS, hM1.2.1.1, hA.1⟩
  refine V_aload_n dL_law_488 rfl ?_
  refine V_aload_n dL_law_489 rfl ?_
  refine V_iload_n dL_law_490 rfl ?_
  refine V_iconst dL_law_491 ?_
  refine V_iadd dL_law_492 ?_
  refine V_rold dL_law_493 (by decide) (show 0 ≤ i + 1 ∧ i + 1 < (gL0 g : Int) by omega) ?_
  refine V_callV dL_law_494 (c_mSums g _ (aW A) hMX _ (ro_b g _)) sv_RL_56 (sh hS rfl) rfl ⟨⟨by decide, by decide⟩, ⟨(show k + 0 + 0 ≤ 600000 by omega), (show n + 0 + 0 ≤ 7302250 by omega)⟩⟩ (Nat.le_of_ble_eq_true rfl) (fun r494 s494 p494 => ?_)
  obtain ⟨rfl, hM2, hFC⟩ := rP.m hM1 p494
  refine V_mask [true, true, true, true] ?_
  refine V_icmpS dL_law_497 (tgt := 1381) (by decide) ?_
  exact K _ _ _ _ (hC1.fc hFC) hM2 (hA.mono (by omega)) (show k + 0 + 0 ≤ _ by omega) (show n + 0 + 0 ≤ _ by omega)
theorem law_nearest (g : Gl) (QF : QFT) (σ : St) (A : Ab) (N k n : Nat) (i : Int) (hC : CL σ A) (hM : MR σ A) (hA : AI A N) (hN : N ≤ 90000) (hi : 0 ≤ i ∧ i + 6 ≤ (gL0 g : Int) ∧ gL0 g ≤ 3072) (hk : k ≤ 500000) (hn : n ≤ 5000000) (K : LC g QF i N k n) : V g mL_law room_1 QF 502 [some (vq (some 4)), some (vq (some 8)), some (vq (some 77)), some (vi i)] [] k n σ := by
  have hS := hC.1
  have hX := hC.xs hA
  have hz := hC.2.2.1
  refine V_aload_n dL_law_502 rfl ?_
  refine V_aload_n dL_law_503 rfl ?_
  refine V_iload_n dL_law_504 rfl ?_
  refine V_iconst dL_law_505 ?_
  refine V_iadd dL_law_506 ?_
  refine V_rold dL_law_507 (by decide) (show 0 ≤ i + 1 ∧ i + 1 < (gL0 g : Int) by omega) ?_
  refine V_callV dL_law_508 (c_nearest g _ (aW A) hX hz _ (ro_b g _)) sv_RL_57 (sh hS rfl) rfl ⟨⟨by decide, by decide⟩, ⟨(show k + 0 ≤ 600000 by omega), (show n + 0 ≤ 7302250 by omega)⟩⟩ (Nat.le_of_ble_eq_true rfl) (fun r508 s508 p508 => ?_)
  obtain ⟨rfl, hC1, hF⟩ := PX.c hC p508
  have hS := hC1.1
  have hM1 := hM.fm hF hS
  have hMX : MX s508 (aW A) := ⟨hS, hM1.2.1.1, hA.1⟩
  refine V_aload_n dL_law_511 rfl ?_
  refine V_aload_n dL_law_512 rfl ?_
  refine V_iload_n dL_law_513 rfl ?_
  refine V_iconst dL_law_514 ?_
  refine V_iadd dL_law_515 ?_
  refine V_rold dL_law_516 (by decide) (show 0 ≤ i + 1 ∧ i + 1 < (gL0 g : Int) by omega) ?_
  refine V_callV dL_law_517 (c_mNearest g _ (aW A) hMX _ (ro_b g _)) sv_RL_60 (sh hS rfl) rfl ⟨⟨by decide, by decide⟩, ⟨(show k + 0 + 0 ≤ 600000 by omega), (show n + 0 + 0 ≤ 7302250 by omega)⟩⟩ (Nat.le_of_ble_eq_true rfl) (fun r517 s517 p517 => ?_)
  obtain ⟨rfl, hM2, hFC⟩ := rP.m hM1 p517
  refine V_mask [true, true, true, true] ?_
  refine V_icmpS dL_law_520 (tgt := 1381) (by decide) ?_
  exact K _ _ _ _ (hC1.fc hFC) hM2 (hA.mono (by omega)) (show k + 0 + 0 ≤ _ by omega) (show n + 0 + 0 ≤ _ by omega)
theorem law_least (g : Gl) (QF : QFT) (σ : St) (A : Ab) (N k n : Nat) (i : Int) (hC : CL σ A) (hM : MR σ A) (hA : AI A N) (hN : N ≤ 90000) (hi : 0 ≤ i ∧ i + 6 ≤ (gL0 g : Int) ∧ gL0 g ≤ 3072) (hk : k ≤ 500000) (hn : n ≤ 5000000) (K : LC g QF i N k n) : V g mL_law room_1 QF 525 [some (vq (some 4)), some (vq (some 8)), some (vq (some 77)), some (vi i)] [] k n σ := by
  have hS := hC.1
  have hX := hC.xs hA
  have hz := hC.2.2.1
  refine V_aload_n dL_law_525 rfl ?_
  refine V_aload_n dL_law_526 rfl ?_
  refine V_iload_n dL_law_527 rfl ?_
  refine V_iconst dL_law_528 ?_
  refine V_iadd dL_law_529 ?_
  refine V_rold dL_law_530 (by decide) (show 0 ≤ i + 1 ∧ i + 1 < (gL0 g : Int) by omega) ?_
  refine V_aload_n dL_law_531 rfl ?_
  refine V_iload_n dL_law_532 rfl ?_
  refine V_iconst dL_law_533 ?_
  refine V_iadd dL_law_534 ?_
  refine V_rold dL_law_535 (by decide) (show 0 ≤ i + 2 ∧ i + 2 < (gL0 g : Int) by omega) ?_
  refine V_aload_n dL_law_536 rfl ?_
  refine V_iload_n dL_law_537 rfl ?_
  refine V_iconst dL_law_538 ?_
  refine V_iadd dL_law_539 ?_
  refine V_rold dL_law_540 (by decide) (show 0 ≤ i + 3 ∧ i + 3 < (gL0 g : Int) by omega) ?_
  refine V_callV dL_law_541 (c_least g _ (aW A) hX hz _ _ _ (ro_b g _) (ro_b g _) (ro_b g _)) sv_RL_61 (sh hS rfl) rfl ⟨⟨by decide, by decide⟩, ⟨(show k + 0 ≤ 600000 by omega), (show n + 0 ≤ 7302250 by omega)⟩⟩ (Nat.le_of_ble_eq_true rfl) (fun r541 s541 p541 => ?_)
  obtain ⟨rfl, hC1, hF⟩ := PX.c hC p541
  have hS := hC1.1
  have hM1 := hM.fm hF hS
  have hMX : MX s541 (aW A) := ⟨hS, hM1.2.1.1, hA.1⟩
  refine V_aload_n dL_law_544 rfl ?_
  refine V_aload_n dL_law_545 rfl ?_
  refine V_iload_n dL_law_546 rfl ?_
  refine V_iconst dL_law_547 ?_
  refine V_iadd dL_law_548 ?_
  refine V_rold dL_law_549 (by decide) (show 0 ≤ i + 1 ∧ i + 1 < (gL0 g : Int) by omega) ?_
  refine V_aload_n dL_law_550 rfl ?_
  refine V_iload_n dL_law_551 rfl ?_
  refine V_iconst dL_law_552 ?_
  refine V_iadd dL_law_553 ?_
  refine V_rold dL_law_554 (by decide) (show 0 ≤ i + 2 ∧ i + 2 < (gL0 g : Int) by omega) ?_
  refine V_aload_n dL_law_555 rfl ?_
  refine V_iload_n dL_law_556 rfl ?_
  refine V_iconst dL_law_557 ?_
  refine V_iadd dL_law_558 ?_
  refine V_rold dL_law_559 (by decide) (show 0 ≤ i + 3 ∧ i + 3 < (gL0 g : Int) by omega) ?_
  refine V_callV dL_law_560 (c_mLeast g _ (aW A) hMX _ _ _ (ro_b g _) (ro_b g _) (ro_b g _)) sv_RL_64 (sh hS rfl) rfl ⟨⟨by decide, by decide⟩, ⟨(show k + 0 + 0 ≤ 600000 by omega), (show n + 0 + 0 ≤ 7302250 by omega)⟩⟩ (Nat.le_of_ble_eq_true rfl) (fun r560 s560 p560 => ?_)
  obtain ⟨rfl, hM2, hFC⟩ := PMS.m hM1 p560
  refine V_mask [true, true, true, true] ?_
  refine V_icmpS dL_law_563 (tgt := 1381) (by decide) ?_
  exact K _ _ _ _ (hC1.fc hFC) hM2 (hA.mono (by omega)) (show k + 0 + 0 ≤ _ by omega) (show n + 0 + 0 ≤ _ by omega)
theorem law_leak (g : Gl) (QF : QFT) (σ : St) (A : Ab) (N k n : Nat) (i : Int) (hC : CL σ A) (hM : MR σ A) (hA : AI A N) (hN : N ≤ 90000) (hi : 0 ≤ i ∧ i + 6 ≤ (gL0 g : Int) ∧ gL0 g ≤ 3072) (hk : k ≤ 500000) (hn : n ≤ 5000000) (K : LC g QF i N k n) : V g mL_law room_1 QF 568 [some (vq (some 4)), some (vq (some 8)), some (vq (some 77)), some (vi i)] [] k n σ := by
  have hS := hC.1
  have hX := hC.xs hA
  have hz := hC.2.2.1
  refine V_aload_n dL_law_568 rfl ?_
  refine V_aload_n dL_law_569 rfl ?_
  refine V_iload_n dL_law_570 rfl ?_
  refine V_iconst dL_law_571 ?_
  refine V_iadd dL_law_572 ?_
  refine V_rold dL_law_573 (by decide) (show 0 ≤ i + 1 ∧ i + 1 < (gL0 g : Int) by omega) ?_
  refine V_aload_n dL_law_574 rfl ?_
  refine V_iload_n dL_law_575 rfl ?_
  refine V_iconst dL_law_576 ?_
  refine V_iadd dL_law_577 ?_
  refine V_rold dL_law_578 (by decide) (show 0 ≤ i + 2 ∧ i + 2 < (gL0 g : Int) by omega) ?_
  refine V_callV dL_law_579 (c_leak g _ (aW A) hX hz _ _ (ro_b g _) (ro_b g _)) sv_RL_65 (sh hS rfl) rfl ⟨⟨by decide, by decide⟩, ⟨(show k + 0 ≤ 600000 by omega), (show n + 0 ≤ 7302250 by omega)⟩⟩ (Nat.le_of_ble_eq_true rfl) (fun r579 s579 p579 => ?_)
  obtain ⟨rfl, hC1, hF⟩ := PX.c hC p579
  have hS := hC1.1
  have hM1 := hM.fm hF hS
  have hMX : MX s579 (aW A) := ⟨hS, hM1.2.1.1, hA.1⟩
  refine V_aload_n dL_law_582 rfl ?_
  refine V_aload_n dL_law_583 rfl ?_
  refine V_iload_n dL_law_584 rfl ?_
  refine V_iconst dL_law_585 ?_
  refine V_iadd dL_law_586 ?_
  refine V_rold dL_law_587 (by decide) (show 0 ≤ i + 1 ∧ i + 1 < (gL0 g : Int) by omega) ?_
  refine V_aload_n dL_law_588 rfl ?_
  refine V_iload_n dL_law_589 rfl ?_
  refine V_iconst dL_law_590 ?_
  refine V_iadd dL_law_591 ?_
  refine V_rold dL_law_592 (by decide) (show 0 ≤ i + 2 ∧ i + 2 < (gL0 g : Int) by omega) ?_
  refine V_callV dL_law_593 (c_mLeak g _ (aW A) hMX _ _ (ro_b g _) (ro_b g _)) sv_RL_68 (sh hS rfl) rfl ⟨⟨by decide, by decide⟩, ⟨(show k + 0 + 0 ≤ 600000 by omega), (show n + 0 + 0 ≤ 7302250 by omega)⟩⟩ (Nat.le_of_ble_eq_true rfl) (fun r593 s593 p593 => ?_)
  obtain ⟨rfl, hM2, hFC⟩ := PMS.m hM1 p593
  refine V_mask [true, true, true, true] ?_
  refine V_icmpS dL_law_596 (tgt := 1381) (by decide) ?_
  exact K _ _ _ _ (hC1.fc hFC) hM2 (hA.mono (by omega)) (show k + 0 + 0 ≤ _ by omega) (show n + 0 + 0 ≤ _ by omega)
theorem law_worst (g : Gl) (QF : QFT) (σ : St) (A : Ab) (N k n : Nat) (i : Int) (hC : CL σ A) (hM : MR σ A) (hA : AI A N) (hN : N ≤ 90000) (hi : 0 ≤ i ∧ i + 6 ≤ (gL0 g : Int) ∧ gL0 g ≤ 3072) (hk : k ≤ 500000) (hn : n ≤ 5000000) (K : LC g QF i N k n) : V g mL_law room_1 QF 601 [some (vq (some 4)), some (vq (some 8)), some (vq (some 77)), some (vi i)] [] k n σ := by
  have hS := hC.1
  have hX := hC.xs hA
  have hz := hC.2.2.1
  refine V_aload_n dL_law_601 rfl ?_
  refine V_aload_n dL_law_602 rfl ?_
  refine V_iload_n dL_law_603 rfl ?_
  refine V_iconst dL_law_604 ?_
  refine V_iadd dL_law_605 ?_
  refine V_rold dL_law_606 (by decide) (show 0 ≤ i + 1 ∧ i + 1 < (gL0 g : Int) by omega) ?_
  refine V_aload_n dL_law_607 rfl ?_
  refine V_iload_n dL_law_608 rfl ?_
  refine V_iconst dL_law_609 ?_
  refine V_iadd dL_law_610 ?_
  refine V_rold dL_law_611 (by decide) (show 0 ≤ i + 2 ∧ i + 2 < (gL0 g : Int) by omega) ?_
  refine V_aload_n dL_law_612 rfl ?_
  refine V_iload_n dL_law_613 rfl ?_
  refine V_iconst dL_law_614 ?_
  refine V_iadd dL_law_615 ?_
  refine V_rold dL_law_616 (by decide) (show 0 ≤ i + 3 ∧ i + 3 < (gL0 g : Int) by omega) ?_
  refine V_callV dL_law_617 (c_worst g _ (aW A) hX hz _ _ _ (ro_b g _) (ro_b g _) (ro_b g _)) sv_RL_69 (sh hS rfl) rfl ⟨⟨by decide, by decide⟩, ⟨(show k + 0 ≤ 600000 by omega), (show n + 0 ≤ 7302250 by omega)⟩⟩ (Nat.le_of_ble_eq_true rfl) (fun r617 s617 p617 => ?_)
  obtain ⟨rfl, hC1, hF⟩ := PX.c hC p617
  have hS := hC1.1
  have hM1 := hM.fm hF hS
  have hMX : MX s617 (aW A) := ⟨hS, hM1.2.1.1, hA.1⟩
  refine V_aload_n dL_law_620 rfl ?_
  refine V_aload_n dL_law_621 rfl ?_
  refine V_iload_n dL_law_622 rfl ?_
  refine V_iconst dL_law_623 ?_
  refine V_iadd dL_law_624 ?_
  refine V_rold dL_law_625 (by decide) (show 0 ≤ i + 1 ∧ i + 1 < (gL0 g : Int) by omega) ?_
  refine V_aload_n dL_law_626 rfl ?_
  refine V_iload_n dL_law_627 rfl ?_
  refine V_iconst dL_law_628 ?_
  refine V_iadd dL_law_629 ?_
  refine V_rold dL_law_630 (by decide) (show 0 ≤ i + 2 ∧ i + 2 < (gL0 g : Int) by omega) ?_
  refine V_aload_n dL_law_631 rfl ?_
  refine V_iload_n dL_law_632 rfl ?_
  refine V_iconst dL_law_633 ?_
  refine V_iadd dL_law_634 ?_
  refine V_rold dL_law_635 (by decide) (show 0 ≤ i + 3 ∧ i + 3 < (gL0 g : Int) by omega) ?_
  refine V_callV dL_law_636 (c_mWorst g _ (aW A) hMX _ _ _ (ro_b g _) (ro_b g _) (ro_b g _)) sv_RL_72 (sh hS rfl) rfl ⟨⟨by decide, by decide⟩, ⟨(show k + 0 + 0 ≤ 600000 by omega), (show n + 0 + 0 ≤ 7302250 by omega)⟩⟩ (Nat.le_of_ble_eq_true rfl) (fun r636 s636 p636 => ?_)
  obtain ⟨rfl, hM2, hFC⟩ := PMS.m hM1 p636
  refine V_mask [true, true, true, true] ?_
  refine V_icmpS dL_law_639 (tgt := 1381) (by decide) ?_
  exact K _ _ _ _ (hC1.fc hFC) hM2 (hA.mono (by omega)) (show k + 0 + 0 ≤ _ by omega) (show n + 0 + 0 ≤ _ by omega)
theorem law_rings (g : Gl) (QF : QFT) (σ : St) (A : Ab) (N k n : Nat) (i : Int) (hC : CL σ A) (hM : MR σ A) (hA : AI A N) (hN : N ≤ 90000) (hi : 0 ≤ i ∧ i + 6 ≤ (gL0 g : Int) ∧ gL0 g ≤ 3072) (hk : k ≤ 500000) (hn : n ≤ 5000000) (K : LC g QF i N k n) : V g mL_law room_1 QF 644 [some (vq (some 4)), some (vq (some 8)), some (vq (some 77)), some (vi i)] [] k n σ := by
  have hS := hC.1
  have hX := hC.xs hA
  have hz := hC.2.2.1
  refine V_aload_n dL_law_644 rfl ?_
  refine V_aload_n dL_law_645 rfl ?_
  refine V_iload_n dL_law_646 rfl ?_
  refine V_iconst dL_law_647 ?_
  refine V_iadd dL_law_648 ?_
  refine V_rold dL_law_649 (by decide) (show 0 ≤ i + 1 ∧ i + 1 < (gL0 g : Int) by omega) ?_
  refine V_aload_n dL_law_650 rfl ?_
  refine V_iload_n dL_law_651 rfl ?_
  refine V_iconst dL_law_652 ?_
  refine V_iadd dL_law_653 ?_
  refine V_rold dL_law_654 (by decide) (show 0 ≤ i + 2 ∧ i + 2 < (gL0 g : Int) by omega) ?_
  refine V_aload_n dL_law_655 rfl ?_
  refine V_iload_n dL_law_656 rfl ?_
  refine V_iconst dL_law_657 ?_
  refine V_iadd dL_law_658 ?_
  refine V_rold dL_law_659 (by decide) (show 0 ≤ i + 3 ∧ i + 3 < (gL0 g : Int) by omega) ?_
  refine V_callV dL_law_660 (c_rings g _ (aW A) hX hz _ _ _ (ro_b g _) (ro_b g _) (ro_b g _)) sv_RL_73 (sh hS rfl) rfl ⟨⟨by decide, by decide⟩, ⟨(show k + 0 ≤ 600000 by omega), (show n + 0 ≤ 7302250 by omega)⟩⟩ (Nat.le_of_ble_eq_true rfl) (fun r660 s660 p660 => ?_)
  obtain ⟨rfl, hC1, hF⟩ := PX.c hC p660
  have hS := hC1.1
  have hM1 := hM.fm hF hS
  have hMX : MX s660 (aW A) := ⟨hS, hM1.2.1.1, hA.1⟩
  refine V_aload_n dL_law_663 rfl ?_
  refine V_aload_n dL_law_664 rfl ?_
  refine V_iload_n dL_law_665 rfl ?_
  refine V_iconst dL_law_666 ?_
  refine V_iadd dL_law_667 ?_
  refine V_rold dL_law_668 (by decide) (show 0 ≤ i + 1 ∧ i + 1 < (gL0 g : Int) by omega) ?_
  refine V_aload_n dL_law_669 rfl ?_
  refine V_iload_n dL_law_670 rfl ?_
  refine V_iconst dL_law_671 ?_
  refine V_iadd dL_law_672 ?_
  refine V_rold dL_law_673 (by decide) (show 0 ≤ i + 2 ∧ i + 2 < (gL0 g : Int) by omega) ?_
  refine V_aload_n dL_law_674 rfl ?_
  refine V_iload_n dL_law_675 rfl ?_
  refine V_iconst dL_law_676 ?_
  refine V_iadd dL_law_677 ?_
  refine V_rold dL_law_678 (by decide) (show 0 ≤ i + 3 ∧ i + 3 < (gL0 g : Int) by omega) ?_
  refine V_callV dL_law_679 (c_mRings g _ (aW A) hMX _ _ _ (ro_b g _) (ro_b g _) (ro_b g _)) sv_RL_76 (sh hS rfl) rfl ⟨⟨by decide, by decide⟩, ⟨(show k + 0 + 0 ≤ 600000 by omega), (show n + 0 + 0 ≤ 7302250 by omega)⟩⟩ (Nat.le_of_ble_eq_true rfl) (fun r679 s679 p679 => ?_)
  obtain ⟨rfl, hM2, hFC⟩ := PMS.m hM1 p679
  refine V_mask [true, true, true, true] ?_
  refine V_icmpS dL_law_682 (tgt := 1381) (by decide) ?_
  exact K _ _ _ _ (hC1.fc hFC) hM2 (hA.mono (by omega)) (show k + 0 + 0 ≤ _ by omega) (show n + 0 + 0 ≤ _ by omega)
theorem law_girth (g : Gl) (QF : QFT) (σ : St) (A : Ab) (N k n : Nat) (i : Int) (hC : CL σ A) (hM : MR σ A) (hA : AI A N) (hN : N ≤ 90000) (hi : 0 ≤ i ∧ i + 6 ≤ (gL0 g : Int) ∧ gL0 g ≤ 3072) (hk : k ≤ 500000) (hn : n ≤ 5000000) (K : LC g QF i N k n) : V g mL_law room_1 QF 687 [some (vq (some 4)), some (vq (some 8)), some (vq (some 77)), some (vi i)] [] k n σ := by
  have hS := hC.1
  have hX := hC.xs hA
  refine V_aload_n dL_law_687 rfl ?_
  refine V_aload_n dL_law_688 rfl ?_
  refine V_iload_n dL_law_689 rfl ?_
  refine V_iconst dL_law_690 ?_
  refine V_iadd dL_law_691 ?_
  refine V_rold dL_law_692 (by decide) (show 0 ≤ i + 1 ∧ i + 1 < (gL0 g : Int) by omega) ?_
  refine V_callV dL_law_693 (c_girth g _ (aW A) hX _ (ro_b g _)) sv_RL_77 (sh hS rfl) rfl ⟨⟨by decide, by decide⟩, ⟨(show k + 0 ≤ 600000 by omega), (show n + 0 ≤ 7302250 by omega)⟩⟩ (Nat.le_of_ble_eq_true rfl) (fun r693 s693 p693 => ?_)
  obtain ⟨rfl, hC1, hF⟩ := rP.c hC p693
  have hS := hC1.1
  have hM1 := hM.fm hF hS
  have hMX : MX s693 (aW A) := ⟨hS, hM1.2.1.1, hA.1⟩
  refine V_aload_n dL_law_696 rfl ?_
  refine V_aload_n dL_law_697 rfl ?_
  refine V_iload_n dL_law_698 rfl ?_
  refine V_iconst dL_law_699 ?_
  refine V_iadd dL_law_700 ?_
  refine V_rold dL_law_701 (by decide) (show 0 ≤ i + 1 ∧ i + 1 < (gL0 g : Int) by omega) ?_
  refine V_callV dL_law_702 (c_mGirth g _ (aW A) hMX _ (ro_b g _)) sv_RL_80 (sh hS rfl) rfl ⟨⟨by decide, by decide⟩, ⟨(show k + 0 + 0 ≤ 600000 by omega), (show n + 0 + 0 ≤ 7302250 by omega)⟩⟩ (Nat.le_of_ble_eq_true rfl) (fun r702 s702 p702 => ?_)
  obtain ⟨rfl, hM2, hFC⟩ := rP.m hM1 p702
  refine V_mask [true, true, true, true] ?_
  refine V_icmpS dL_law_705 (tgt := 1381) (by decide) ?_
  exact K _ _ _ _ (hC1.fc hFC) hM2 (hA.mono (by omega)) (show k + 0 + 0 ≤ _ by omega) (show n + 0 + 0 ≤ _ by omega)
theorem law_ofHoop (g : Gl) (QF : QFT) (σ : St) (A : Ab) (N k n : Nat) (i : Int) (hC : CL σ A) (hM : MR σ A) (hA : AI A N) (hN : N ≤ 90000) (hi : 0 ≤ i ∧ i + 6 ≤ (gL0 g : Int) ∧ gL0 g ≤ 3072) (hk : k ≤ 500000) (hn : n ≤ 5000000) (K : LC g QF i N k n) : V g mL_law room_1 QF 710 [some (vq (some 4)), some (vq (some 8)), some (vq (some 77)), some (vi i)] [] k n σ := by
  have hS := hC.1
  have hX := hC.xs hA
  have hz := hC.2.2.1
  refine V_aload_n dL_law_710 rfl ?_
  refine V_aload_n dL_law_711 rfl ?_
  refine V_iload_n dL_law_712 rfl ?_
  refine V_iconst dL_law_713 ?_
  refine V_iadd dL_law_714 ?_
  refine V_rold dL_law_715 (by decide) (show 0 ≤ i + 1 ∧ i + 1 < (gL0 g : Int) by omega) ?_
  refine V_aload_n dL_law_716 rfl ?_
  refine V_iload_n dL_law_717 rfl ?_
  refine V_iconst dL_law_718 ?_
  refine V_iadd dL_law_719 ?_
  refine V_rold dL_law_720 (by decide) (show 0 ≤ i + 2 ∧ i + 2 < (gL0 g : Int) by omega) ?_
  refine V_callV dL_law_721 (c_ofHoop g _ (aW A) hX hz _ _ (ro_b g _) (ro_b g _)) sv_RL_81 (sh hS rfl) rfl ⟨⟨by decide, by decide⟩, ⟨(show k + 0 ≤ 600000 by omega), (show n + 0 ≤ 7302250 by omega)⟩⟩ (Nat.le_of_ble_eq_true rfl) (fun r721 s721 p721 => ?_)
  obtain ⟨rfl, hC1, hF⟩ := PW.c hC p721
  have hS := hC1.1
  have hM1 := hM.fm hF hS
  have hMX : MX s721 (aW A) := ⟨hS, hM1.2.1.1, hA.1⟩
  refine V_aload_n dL_law_724 rfl ?_
  refine V_aload_n dL_law_725 rfl ?_
  refine V_iload_n dL_law_726 rfl ?_
  refine V_iconst dL_law_727 ?_
  refine V_iadd dL_law_728 ?_
  refine V_rold dL_law_729 (by decide) (show 0 ≤ i + 1 ∧ i + 1 < (gL0 g : Int) by omega) ?_
  refine V_aload_n dL_law_730 rfl ?_
  refine V_iload_n dL_law_731 rfl ?_
  refine V_iconst dL_law_732 ?_
  refine V_iadd dL_law_733 ?_
  refine V_rold dL_law_734 (by decide) (show 0 ≤ i + 2 ∧ i + 2 < (gL0 g : Int) by omega) ?_
  refine V_callV dL_law_735 (c_mOfHoop g _ (aW A) hMX _ _ (ro_b g _) (ro_b g _)) sv_RL_84 (sh hS rfl) rfl ⟨⟨by decide, by decide⟩, ⟨(show k + 0 + 0 ≤ 600000 by omega), (show n + 0 + 0 ≤ 7302250 by omega)⟩⟩ (Nat.le_of_ble_eq_true rfl) (fun r735 s735 p735 => ?_)
  obtain ⟨rfl, hM2, hFC⟩ := PMS.m hM1 p735
  refine V_mask [true, true, true, true] ?_
  refine V_icmpS dL_law_738 (tgt := 1381) (by decide) ?_
  exact K _ _ _ _ (hC1.fc hFC) hM2 (hA.mono (by omega)) (show k + 0 + 0 ≤ _ by omega) (show n + 0 + 0 ≤ _ by omega)
theorem law_press (g : Gl) (QF : QFT) (σ : St) (A : Ab) (N k n : Nat) (i : Int) (hC : CL σ A) (hM : MR σ A) (hA : AI A N) (hN : N ≤ 90000) (hi : 0 ≤ i ∧ i + 6 ≤ (gL0 g : Int) ∧ gL0 g ≤ 3072) (hk : k ≤ 500000) (hn : n ≤ 5000000) (K : LC g QF i N k n) : V g mL_law room_1 QF 743 [some (vq (some 4)), some (vq (some 8)), some (vq (some 77)), some (vi i)] [] k n σ := by
  have hS := hC.1
  have hX := hC.xs hA
  have hz := hC.2.2.1
  refine V_aload_n dL_law_743 rfl ?_
  refine V_aload_n dL_law_744 rfl ?_
  refine V_iload_n dL_law_745 rfl ?_
  refine V_iconst dL_law_746 ?_
  refine V_iadd dL_law_747 ?_
  refine V_rold dL_law_748 (by decide) (show 0 ≤ i + 1 ∧ i + 1 < (gL0 g : Int) by omega) ?_
  refine V_callV dL_law_749 (c_press g _ (aW A) hX hz _ (ro_b g _)) sv_RL_85 (sh hS rfl) rfl ⟨⟨by decide, by decide⟩, ⟨(show k + 0 ≤ 600000 by omega), (show n + 0 ≤ 7302250 by omega)⟩⟩ (Nat.le_of_ble_eq_true rfl) (fun r749 s749 p749 => ?_)
  obtain ⟨rfl, hC1, hF⟩ := PW.c hC p749
  have hS := hC1.1
  have hM1 := hM.fm hF hS
  have hMX : MX s749 (aW A) := ⟨hS, hM1.2.1.1, hA.1⟩
  refine V_aload_n dL_law_752 rfl ?_
  refine V_aload_n dL_law_753 rfl ?_
  refine V_iload_n dL_law_754 rfl ?_
  refine V_iconst dL_law_755 ?_
  refine V_iadd dL_law_756 ?_
  refine V_rold dL_law_757 (by decide) (show 0 ≤ i + 1 ∧ i + 1 < (gL0 g : Int) by omega) ?_
  refine V_callV dL_law_758 (c_mPress g _ (aW A) hMX _ (ro_b g _)) sv_RL_88 (sh hS rfl) rfl ⟨⟨by decide, by decide⟩, ⟨(show k + 0 + 0 ≤ 600000 by omega), (show n + 0 + 0 ≤ 7302250 by omega)⟩⟩ (Nat.le_of_ble_eq_true rfl) (fun r758 s758 p758 => ?_)
  obtain ⟨rfl, hM2, hFC⟩ := PMS.m hM1 p758
  refine V_mask [true, true, true, true] ?_
  refine V_icmpS dL_law_761 (tgt := 1381) (by decide) ?_
  exact K _ _ _ _ (hC1.fc hFC) hM2 (hA.mono (by omega)) (show k + 0 + 0 ≤ _ by omega) (show n + 0 + 0 ≤ _ by omega)
theorem law_wet (g : Gl) (QF : QFT) (σ : St) (A : Ab) (N k n : Nat) (i : Int) (hC : CL σ A) (hM : MR σ A) (hA : AI A N) (hN : N ≤ 90000) (hi : 0 ≤ i ∧ i + 6 ≤ (gL0 g : Int) ∧ gL0 g ≤ 3072) (hk : k ≤ 500000) (hn : n ≤ 5000000) (K : LC g QF i N k n) : V g mL_law room_1 QF 766 [some (vq (some 4)), some (vq (some 8)), some (vq (some 77)), some (vi i)] [] k n σ := by
  have hS := hC.1
  have hX := hC.xs hA
  have hz := hC.2.2.1
  refine V_aload_n dL_law_766 rfl ?_
  refine V_aload_n dL_law_767 rfl ?_
  refine V_iload_n dL_law_768 rfl ?_
  refine V_iconst dL_law_769 ?_
  refine V_iadd dL_law_770 ?_
  refine V_rold dL_law_771 (by decide) (show 0 ≤ i + 1 ∧ i + 1 < (gL0 g : Int) by omega) ?_
  refine V_callV dL_law_772 (c_wet g _ (aW A) hX hz _ (ro_b g _)) sv_RL_89 (sh hS rfl) rfl ⟨⟨by decide, by decide⟩, ⟨(show k + 0 ≤ 600000 by omega), (show n + 0 ≤ 7302250 by omega)⟩⟩ (Nat.le_of_ble_eq_true rfl) (fun r772 s772 p772 => ?_)
  obtain ⟨rfl, hC1, hF⟩ := PW.c hC p772
  have hS := hC1.1
  have hM1 := hM.fm hF hS
  have hMX : MX s772 (aW A) := ⟨hS, hM1.2.1.1, hA.1⟩
  refine V_aload_n dL_law_775 rfl ?_
  refine V_aload_n dL_law_776 rfl ?_
  refine V_iload_n dL_law_777 rfl ?_
  refine V_iconst dL_law_778 ?_
  refine V_iadd dL_law_779 ?_
  refine V_rold dL_law_780 (by decide) (show 0 ≤ i + 1 ∧ i + 1 < (gL0 g : Int) by omega) ?_
  refine V_callV dL_law_781 (c_mWet g _ (aW A) hMX _ (ro_b g _)) sv_RL_92 (sh hS rfl) rfl ⟨⟨by decide, by decide⟩, ⟨(show k + 0 + 0 ≤ 600000 by omega), (show n + 0 + 0 ≤ 7302250 by omega)⟩⟩ (Nat.le_of_ble_eq_true rfl) (fun r781 s781 p781 => ?_)
  obtain ⟨rfl, hM2, hFC⟩ := PMS.m hM1 p781
  refine V_mask [true, true, true, true] ?_
  refine V_icmpS dL_law_784 (tgt := 1381) (by decide) ?_
  exact K _ _ _ _ (hC1.fc hFC) hM2 (hA.mono (by omega)) (show k + 0 + 0 ≤ _ by omega) (show n + 0 + 0 ≤ _ by omega)
theorem law_driest (g : Gl) (QF : QFT) (σ : St) (A : Ab) (N k n : Nat) (i : Int) (hC : CL σ A) (hM : MR σ A) (hA : AI A N) (hN : N ≤ 90000) (hi : 0 ≤ i ∧ i + 6 ≤ (gL0 g : Int) ∧ gL0 g ≤ 3072) (hk : k ≤ 500000) (hn : n ≤ 5000000) (K : LC g QF i N k n) : V g mL_law room_1 QF 789 [some (vq (some 4)), some (vq (some 8)), some (vq (some 77)), some (vi i)] [] k n σ := by
  have hS := hC.1
  have hX := hC.xs hA
  have hz := hC.2.2.1
  refine V_aload_n dL_law_789 rfl ?_
  refine V_aload_n dL_law_790 rfl ?_
  refine V_iload_n dL_law_791 rfl ?_
  refine V_iconst dL_law_792 ?_
  refine V_iadd dL_law_793 ?_
  refine V_rold dL_law_794 (by decide) (show 0 ≤ i + 1 ∧ i + 1 < (gL0 g : Int) by omega) ?_
  refine V_aload_n dL_law_795 rfl ?_
  refine V_iload_n dL_law_796 rfl ?_
  refine V_iconst dL_law_797 ?_
  refine V_iadd dL_law_798 ?_
  refine V_rold dL_law_799 (by decide) (show 0 ≤ i + 2 ∧ i + 2 < (gL0 g : Int) by omega) ?_
  refine V_callV dL_law_800 (c_driest g _ (aW A) hX hz _ _ (ro_b g _) (ro_b g _)) sv_RL_93 (sh hS rfl) rfl ⟨⟨by decide, by decide⟩, ⟨(show k + 0 ≤ 600000 by omega), (show n + 0 ≤ 7302250 by omega)⟩⟩ (Nat.le_of_ble_eq_true rfl) (fun r800 s800 p800 => ?_)
  obtain ⟨rfl, hC1, hF⟩ := PW.c hC p800
  have hS := hC1.1
  have hM1 := hM.fm hF hS
  refine V_aload_n dL_law_803 rfl ?_
  refine V_aload_n dL_law_804 rfl ?_
  refine V_iload_n dL_law_805 rfl ?_
  refine V_iconst dL_law_806 ?_
  refine V_iadd dL_law_807 ?_
  refine V_rold dL_law_808 (by decide) (show 0 ≤ i + 1 ∧ i + 1 < (gL0 g : Int) by omega) ?_
  refine V_aload_n dL_law_809 rfl ?_
  refine V_iload_n dL_law_810 rfl ?_
  refine V_iconst dL_law_811 ?_
  refine V_iadd dL_law_812 ?_
  refine V_rold dL_law_813 (by decide) (show 0 ≤ i + 2 ∧ i + 2 < (gL0 g : Int) by omega) ?_
  refine V_callV dL_law_814 (c_mDriest g _ A N hM1 hA _ _ (ro_b g _) (ro_b g _)) sv_RL_96 (sh hS rfl) rfl ⟨⟨by decide, by decide⟩, ⟨(show k + 0 + 0 ≤ 600000 by omega), (show n + 0 + 0 ≤ 7302250 by omega)⟩⟩ (Nat.le_of_ble_eq_true rfl) (fun r814 s814 p814 => ?_)
  obtain ⟨rfl, hM2, hFC⟩ := p814
  refine V_mask [true, true, true, true] ?_
  refine V_icmpS dL_law_817 (tgt := 1381) (by decide) ?_
  exact K _ _ _ _ ((hC1.dry hA _ _).fc hFC) hM2 ((hA.dry _ _).mono (by omega)) (show k + 0 + 0 ≤ _ by omega) (show n + 0 + 0 ≤ _ by omega)
theorem law_head (g : Gl) (QF : QFT) (σ : St) (A : Ab) (N k n : Nat) (i : Int) (hC : CL σ A) (hM : MR σ A) (hA : AI A N) (hN : N ≤ 90000) (hi : 0 ≤ i ∧ i + 6 ≤ (gL0 g : Int) ∧ gL0 g ≤ 3072) (hk : k ≤ 500000) (hn : n ≤ 5000000) (K : LC g QF i N k n) : V g mL_law room_1 QF 822 [some (vq (some 4)), some (vq (some 8)), some (vq (some 77)), some (vi i)] [] k n σ := by
  have hS := hC.1
  have hX := hC.xs hA
  have hz := hC.2.2.1
  refine V_aload_n dL_law_822 rfl ?_
  refine V_aload_n dL_law_823 rfl ?_
  refine V_iload_n dL_law_824 rfl ?_
  refine V_iconst dL_law_825 ?_
  refine V_iadd dL_law_826 ?_
  refine V_rold dL_law_827 (by decide) (show 0 ≤ i + 1 ∧ i + 1 < (gL0 g : Int) by omega) ?_
  refine V_aload_n dL_law_828 rfl ?_
  refine V_iload_n dL_law_829 rfl ?_
  refine V_iconst dL_law_830 ?_
  refine V_iadd dL_law_831 ?_
  refine V_rold dL_law_832 (by decide) (show 0 ≤ i + 2 ∧ i + 2 < (gL0 g : Int) by omega) ?_
  refine V_callV dL_law_833 (c_head g _ (aW A) hX hz _ _ (ro_b g _) (ro_b g _)) sv_RL_97 (sh hS rfl) rfl ⟨⟨by decide, by decide⟩, ⟨(show k + 0 ≤ 600000 by omega), (show n + 0 ≤ 7302250 by omega)⟩⟩ (Nat.le_of_ble_eq_true rfl) (fun r833 s833 p833 => ?_)
  obtain ⟨rfl, hC1, hF⟩ := PW.c hC p833
  have hS := hC1.1
  have hM1 := hM.fm hF hS
  have hMX : MX s833 (aW A) := ⟨hS, hM1.2.1.1, hA.1⟩
  refine V_aload_n dL_law_836 rfl ?_
  refine V_aload_n dL_law_837 rfl ?_
  refine V_iload_n dL_law_838 rfl ?_
  refine V_iconst dL_law_839 ?_
  refine V_iadd dL_law_840 ?_
  refine V_rold dL_law_841 (by decide) (show 0 ≤ i + 1 ∧ i + 1 < (gL0 g : Int) by omega) ?_
  refine V_aload_n dL_law_842 rfl ?_
  refine V_iload_n dL_law_843 rfl ?_
  refine V_iconst dL_law_844 ?_
  refine V_iadd dL_law_845 ?_
  refine V_rold dL_law_846 (by decide) (show 0 ≤ i + 2 ∧ i + 2 < (gL0 g : Int) by omega) ?_
  refine V_callV dL_law_847 (c_mHead g _ (aW A) hMX _ _ (ro_b g _) (ro_b g _)) sv_RL_100 (sh hS rfl) rfl ⟨⟨by decide, by decide⟩, ⟨(show k + 0 + 0 ≤ 600000 by omega), (show n + 0 + 0 ≤ 7302250 by omega)⟩⟩ (Nat.le_of_ble_eq_true rfl) (fun r847 s847 p847 => ?_)
  obtain ⟨rfl, hM2, hFC⟩ := PMS.m hM1 p847
  refine V_mask [true, true, true, true] ?_
  refine V_icmpS dL_law_850 (tgt := 1381) (by decide) ?_
  exact K _ _ _ _ (hC1.fc hFC) hM2 (hA.mono (by omega)) (show k + 0 + 0 ≤ _ by omega) (show n + 0 + 0 ≤ _ by omega)
theorem law_used (g : Gl) (QF : QFT) (σ : St) (A : Ab) (N k n : Nat) (i : Int) (hC : CL σ A) (hM : MR σ A) (hA : AI A N) (hN : N ≤ 90000) (hi : 0 ≤ i ∧ i + 6 ≤ (gL0 g : Int) ∧ gL0 g ≤ 3072) (hk : k ≤ 500000) (hn : n ≤ 5000000) (K : LC g QF i N k n) : V g mL_law room_1 QF 855 [some (vq (some 4)), some (vq (some 8)), some (vq (some 77)), some (vi i)] [] k n σ := by
  have hS := hC.1
  have hX := hC.xs hA
  have hz := hC.2.2.1
  refine V_aload_n dL_law_855 rfl ?_
  refine V_aload_n dL_law_856 rfl ?_
  refine V_iload_n dL_law_857 rfl ?_
  refine V_iconst dL_law_858 ?_
  refine V_iadd dL_law_859 ?_
  refine V_rold dL_law_860 (by decide) (show 0 ≤ i + 1 ∧ i + 1 < (gL0 g : Int) by omega) ?_
  refine V_aload_n dL_law_861 rfl ?_
  refine V_iload_n dL_law_862 rfl ?_
  refine V_iconst dL_law_863 ?_
  refine V_iadd dL_law_864 ?_
  refine V_rold dL_law_865 (by decide) (show 0 ≤ i + 2 ∧ i + 2 < (gL0 g : Int) by omega) ?_
  refine V_callV dL_law_866 (c_used g _ (aW A) hX hz _ _ (ro_b g _) (ro_b g _)) sv_RL_101 (sh hS rfl) rfl ⟨⟨by decide, by decide⟩, ⟨(show k + 0 ≤ 600000 by omega), (show n + 0 ≤ 7302250 by omega)⟩⟩ (Nat.le_of_ble_eq_true rfl) (fun r866 s866 p866 => ?_)
  obtain ⟨rfl, hC1, hF⟩ := PW.c hC p866
  have hS := hC1.1
  have hM1 := hM.fm hF hS
  have hMX : MX s866 (aW A) := ⟨hS, hM1.2.1.1, hA.1⟩
  refine V_aload_n dL_law_869 rfl ?_
  refine V_aload_n dL_law_870 rfl ?_
  refine V_iload_n dL_law_871 rfl ?_
  refine V_iconst dL_law_872 ?_
  refine V_iadd dL_law_873 ?_
  refine V_rold dL_law_874 (by decide) (show 0 ≤ i + 1 ∧ i + 1 < (gL0 g : Int) by omega) ?_
  refine V_aload_n dL_law_875 rfl ?_
  refine V_iload_n dL_law_876 rfl ?_
  refine V_iconst dL_law_877 ?_
  refine V_iadd dL_law_878 ?_
  refine V_rold dL_law_879 (by decide) (show 0 ≤ i + 2 ∧ i + 2 < (gL0 g : Int) by omega) ?_
  refine V_callV dL_law_880 (c_mUsed g _ (aW A) hMX _ _ (ro_b g _) (ro_b g _)) sv_RL_104 (sh hS rfl) rfl ⟨⟨by decide, by decide⟩, ⟨(show k + 0 + 0 ≤ 600000 by omega), (show n + 0 + 0 ≤ 7302250 by omega)⟩⟩ (Nat.le_of_ble_eq_true rfl) (fun r880 s880 p880 => ?_)
  obtain ⟨rfl, hM2, hFC⟩ := rP.m hM1 p880
  refine V_mask [true, true, true, true] ?_
  refine V_icmpS dL_law_883 (tgt := 1381) (by decide) ?_
  exact K _ _ _ _ (hC1.fc hFC) hM2 (hA.mono (by omega)) (show k + 0 + 0 ≤ _ by omega) (show n + 0 + 0 ≤ _ by omega)
theorem law_heads (g : Gl) (QF : QFT) (σ : St) (A : Ab) (N k n : Nat) (i : Int) (hC : CL σ A) (hM : MR σ A) (hA : AI A N) (hN : N ≤ 90000) (hi : 0 ≤ i ∧ i + 6 ≤ (gL0 g : Int) ∧ gL0 g ≤ 3072) (hk : k ≤ 500000) (hn : n ≤ 5000000) (K : LC g QF i N k n) : V g mL_law room_1 QF 888 [some (vq (some 4)), some (vq (some 8)), some (vq (some 77)), some (vi i)] [] k n σ := by
  have hS := hC.1
  have hX := hC.xs hA
  have hz := hC.2.2.1
  refine V_aload_n dL_law_888 rfl ?_
  refine V_aload_n dL_law_889 rfl ?_
  refine V_iload_n dL_law_890 rfl ?_
  refine V_iconst dL_law_891 ?_
  refine V_iadd dL_law_892 ?_
  refine V_rold dL_law_893 (by decide) (show 0 ≤ i + 1 ∧ i + 1 < (gL0 g : Int) by omega) ?_
  refine V_callV dL_law_894 (c_heads g _ (aW A) hX hz _ (ro_b g _)) sv_RL_105 (sh hS rfl) rfl ⟨⟨by decide, by decide⟩, ⟨(show k + 0 ≤ 600000 by omega), (show n + 0 ≤ 7302250 by omega)⟩⟩ (Nat.le_of_ble_eq_true rfl) (fun r894 s894 p894 => ?_)
  obtain ⟨rfl, hC1, hF⟩ := PW.c hC p894
  have hS := hC1.1
  have hM1 := hM.fm hF hS
  have hMX : MX s894 (aW A) := ⟨hS, hM1.2.1.1, hA.1⟩
  refine V_aload_n dL_law_897 rfl ?_
  refine V_aload_n dL_law_898 rfl ?_
  refine V_iload_n dL_law_899 rfl ?_
  refine V_iconst dL_law_900 ?_
  refine V_iadd dL_law_901 ?_
  refine V_rold dL_law_902 (by decide) (show 0 ≤ i + 1 ∧ i + 1 < (gL0 g : Int) by omega) ?_
  refine V_callV dL_law_903 (c_mHeads g _ (aW A) hMX _ (ro_b g _)) sv_RL_108 (sh hS rfl) rfl ⟨⟨by decide, by decide⟩, ⟨(show k + 0 + 0 ≤ 600000 by omega), (show n + 0 + 0 ≤ 7302250 by omega)⟩⟩ (Nat.le_of_ble_eq_true rfl) (fun r903 s903 p903 => ?_)
  obtain ⟨rfl, hM2, hFC⟩ := PMS.m hM1 p903
  refine V_mask [true, true, true, true] ?_
  refine V_icmpS dL_law_906 (tgt := 1381) (by decide) ?_
  exact K _ _ _ _ (hC1.fc hFC) hM2 (hA.mono (by omega)) (show k + 0 + 0 ≤ _ by omega) (show n + 0 + 0 ≤ _ by omega)
theorem law_feed (g : Gl) (QF : QFT) (σ : St) (A : Ab) (N k n : Nat) (i : Int) (hC : CL σ A) (hM : MR σ A) (hA : AI A N) (hN : N ≤ 90000) (hi : 0 ≤ i ∧ i + 6 ≤ (gL0 g : Int) ∧ gL0 g ≤ 3072) (hk : k ≤ 500000) (hn : n ≤ 5000000) (K : LC g QF i N k n) : V g mL_law room_1 QF 911 [some (vq (some 4)), some (vq (some 8)), some (vq (some 77)), some (vi i)] [] k n σ := by
  have hS := hC.1
  refine V_aload_n dL_law_911 rfl ?_
  refine V_aload_n dL_law_912 rfl ?_
  refine V_iload_n dL_law_913 rfl ?_
  refine V_iconst dL_law_914 ?_
  refine V_iadd dL_law_915 ?_
  refine V_rold dL_law_916 (by decide) (show 0 ≤ i + 1 ∧ i + 1 < (gL0 g : Int) by omega) ?_
  refine V_callV dL_law_917 (c_feed g _ A N hC hA _ (ro_b g _)) sv_RL_109 (sh hS rfl) rfl ⟨⟨by decide, by decide⟩, ⟨(show k + 0 ≤ 600000 by omega), (show n + 0 ≤ 7302250 by omega)⟩⟩ (Nat.le_of_ble_eq_true rfl) (fun r917 s917 p917 => ?_)
  obtain ⟨rfl, hC1, hF⟩ := p917
  have hS := hC1.1
  have hM1 := hM.fm hF hS
  refine V_aload_n dL_law_920 rfl ?_
  refine V_aload_n dL_law_921 rfl ?_
  refine V_iload_n dL_law_922 rfl ?_
  refine V_iconst dL_law_923 ?_
  refine V_iadd dL_law_924 ?_
  refine V_rold dL_law_925 (by decide) (show 0 ≤ i + 1 ∧ i + 1 < (gL0 g : Int) by omega) ?_
  refine V_callV dL_law_926 (c_mFeed g _ A N hM1 hA _ (ro_b g _)) sv_RL_112 (sh hS rfl) rfl ⟨⟨by decide, by decide⟩, ⟨(show k + 0 + 0 ≤ 600000 by omega), (show n + 0 + 0 ≤ 7302250 by omega)⟩⟩ (Nat.le_of_ble_eq_true rfl) (fun r926 s926 p926 => ?_)
  obtain ⟨rfl, hM2, hFC⟩ := p926
  refine V_mask [true, true, true, true] ?_
  refine V_icmpS dL_law_929 (tgt := 1381) (by decide) ?_
  exact K _ _ _ _ (hC1.fc hFC) hM2 ((hA.feed _).mono (by omega)) (show k + 0 + 0 ≤ _ by omega) (show n + 0 + 0 ≤ _ by omega)
theorem law_read (g : Gl) (QF : QFT) (σ : St) (A : Ab) (N k n : Nat) (i : Int) (hC : CL σ A) (hM : MR σ A) (hA : AI A N) (hN : N ≤ 90000) (hi : 0 ≤ i ∧ i + 6 ≤ (gL0 g : Int) ∧ gL0 g ≤ 3072) (hk : k ≤ 500000) (hn : n ≤ 5000000) (K : LC g QF i N k n) : V g mL_law room_1 QF 934 [some (vq (some 4)), some (vq (some 8)), some (vq (some 77)), some (vi i)] [] k n σ := by
  have hS := hC.1
  refine V_aload_n dL_law_934 rfl ?_
  refine V_callV dL_law_935 (c_read g _ A N hC hA) sv_RL_113 (sh hS rfl) rfl ⟨⟨by decide, by decide⟩, ⟨(show k + 27 ≤ 600000 by omega), (show n + 108 ≤ 7302250 by omega)⟩⟩ (Nat.le_of_ble_eq_true rfl) (fun r935 s935 p935 => ?_)
  obtain ⟨rfl, hC1, hF⟩ := p935
  have hS := hC1.1
  have hM1 := hM.fm hF hS
  refine V_aload_n dL_law_938 rfl ?_
  refine V_callV dL_law_939 (c_mRead g _ A N hM1 hA) sv_RL_117 (sh hS rfl) rfl ⟨⟨by decide, by decide⟩, ⟨(show k + 27 + 0 ≤ 600000 by omega), (show n + 108 + 0 ≤ 7302250 by omega)⟩⟩ (Nat.le_of_ble_eq_true rfl) (fun r939 s939 p939 => ?_)
  obtain ⟨rfl, hM2, hFC⟩ := p939
  refine V_mask [true, true, true, true] ?_
  refine V_icmpS dL_law_942 (tgt := 1381) (by decide) ?_
  exact K _ _ _ _ (hC1.fc hFC) hM2 (hA.read.mono (by omega)) (show k + 27 + 0 ≤ _ by omega) (show n + 108 + 0 ≤ _ by omega)
theorem law_hang (g : Gl) (QF : QFT) (σ : St) (A : Ab) (N k n : Nat) (i : Int) (hC : CL σ A) (hM : MR σ A) (hA : AI A N) (hN : N ≤ 90000) (hi : 0 ≤ i ∧ i + 6 ≤ (gL0 g : Int) ∧ gL0 g ≤ 3072) (hk : k ≤ 500000) (hn : n ≤ 5000000) (K : LC g QF i N k n) : V g mL_law room_1 QF 947 [some (vq (some 4)), some (vq (some 8)), some (vq (some 77)), some (vi i)] [] k n σ := by
  have hS := hC.1
  refine V_aload_n dL_law_947 rfl ?_
  refine V_aload_n dL_law_948 rfl ?_
  refine V_iload_n dL_law_949 rfl ?_
  refine V_iconst dL_law_950 ?_
  refine V_iadd dL_law_951 ?_
  refine V_rold dL_law_952 (by decide) (show 0 ≤ i + 1 ∧ i + 1 < (gL0 g : Int) by omega) ?_
  refine V_aload_n dL_law_953 rfl ?_
  refine V_iload_n dL_law_954 rfl ?_
  refine V_iconst dL_law_955 ?_
  refine V_iadd dL_law_956 ?_
  refine V_rold dL_law_957 (by decide) (show 0 ≤ i + 2 ∧ i + 2 < (gL0 g : Int) by omega) ?_
  refine V_aload_n dL_law_958 rfl ?_
  refine V_iload_n dL_law_959 rfl ?_
  refine V_iconst dL_law_960 ?_
  refine V_iadd dL_law_961 ?_
  refine V_rold dL_law_962 (by decide) (show 0 ≤ i + 3 ∧ i + 3 < (gL0 g : Int) by omega) ?_
  refine V_callV dL_law_963 (c_hang g _ A N hC hA _ _ _ (ro_b g _) (ro_b g _) (ro_b g _)) sv_RL_118 (sh hS rfl) rfl ⟨⟨by decide, by decide⟩, ⟨(show k + 0 ≤ 600000 by omega), (show n + 0 ≤ 7302250 by omega)⟩⟩ (Nat.le_of_ble_eq_true rfl) (fun r963 s963 p963 => ?_)
  obtain ⟨rfl, hC1, hF⟩ := p963
  have hS := hC1.1
  have hM1 := hM.fm hF hS
  refine V_aload_n dL_law_966 rfl ?_
  refine V_aload_n dL_law_967 rfl ?_
  refine V_iload_n dL_law_968 rfl ?_
  refine V_iconst dL_law_969 ?_
  refine V_iadd dL_law_970 ?_
  refine V_rold dL_law_971 (by decide) (show 0 ≤ i + 1 ∧ i + 1 < (gL0 g : Int) by omega) ?_
  refine V_aload_n dL_law_972 rfl ?_
  refine V_iload_n dL_law_973 rfl ?_
  refine V_iconst dL_law_974 ?_
  refine V_iadd dL_law_975 ?_
  refine V_rold dL_law_976 (by decide) (show 0 ≤ i + 2 ∧ i + 2 < (gL0 g : Int) by omega) ?_
  refine V_aload_n dL_law_977 rfl ?_
  refine V_iload_n dL_law_978 rfl ?_
  refine V_iconst dL_law_979 ?_
  refine V_iadd dL_law_980 ?_
  refine V_rold dL_law_981 (by decide) (show 0 ≤ i + 3 ∧ i + 3 < (gL0 g : Int) by omega) ?_
  refine V_callV dL_law_982 (c_mHang g _ A N hM1 hA _ _ _ (ro_b g _) (ro_b g _) (ro_b g _)) sv_RL_121 (sh hS rfl) rfl ⟨⟨by decide, by decide⟩, ⟨(show k + 0 + 0 ≤ 600000 by omega), (show n + 0 + 0 ≤ 7302250 by omega)⟩⟩ (Nat.le_of_ble_eq_true rfl) (fun r982 s982 p982 => ?_)
  obtain ⟨rfl, hM2, hFC⟩ := p982
  refine V_mask [true, true, true, true] ?_
  refine V_icmpS dL_law_985 (tgt := 1381) (by decide) ?_
  exact K _ _ _ _ (hC1.fc hFC) hM2 ((hA.hang _ _ _).mono (by omega)) (show k + 0 + 0 ≤ _ by omega) (show n + 0 + 0 ≤ _ by omega)
theorem law_tray (g : Gl) (QF : QFT) (σ : St) (A : Ab) (N k n : Nat) (i : Int) (hC : CL σ A) (hM : MR σ A) (hA : AI A N) (hN : N ≤ 90000) (hi : 0 ≤ i ∧ i + 6 ≤ (gL0 g : Int) ∧ gL0 g ≤ 3072) (hk : k ≤ 500000) (hn : n ≤ 5000000) (K : LC g QF i N k n) : V g mL_law room_1 QF 990 [some (vq (some 4)), some (vq (some 8)), some (vq (some 77)), some (vi i)] [] k n σ := by
  have hS := hC.1
  refine V_aload_n dL_law_990 rfl ?_
  refine V_aload_n dL_law_991 rfl ?_
  refine V_iload_n dL_law_992 rfl ?_
  refine V_iconst dL_law_993 ?_
  refine V_iadd dL_law_994 ?_
  refine V_rold dL_law_995 (by decide) (show 0 ≤ i + 1 ∧ i + 1 < (gL0 g : Int) by omega) ?_
  refine V_aload_n dL_law_996 rfl ?_
  refine V_iload_n dL_law_997 rfl ?_
  refine V_iconst dL_law_998 ?_
  refine V_iadd dL_law_999 ?_
  refine V_rold dL_law_1000 (by decide) (show 0 ≤ i + 2 ∧ i + 2 < (gL0 g : Int) by omega) ?_
  refine V_aload_n dL_law_1001 rfl ?_
  refine V_iload_n dL_law_1002 rfl ?_
  refine V_iconst dL_law_1003 ?_
  refine V_iadd dL_law_1004 ?_
  refine V_rold dL_law_1005 (by decide) (show 0 ≤ i + 3 ∧ i + 3 < (gL0 g : Int) by omega) ?_
  refine V_callV dL_law_1006 (c_tray g _ A hC _ _ _ (ro_b g _) (ro_b g _) (ro_b g _)) sv_RL_122 (sh hS rfl) rfl ⟨⟨by decide, by decide⟩, ⟨(show k + 2 ≤ 600000 by omega), (show n + 32 ≤ 7302250 by omega)⟩⟩ (Nat.le_of_ble_eq_true rfl) (fun r1006 s1006 p1006 => ?_)
  obtain ⟨rfl, hC1, hF⟩ := p1006
  have hS := hC1.1
  have hM1 := hM.fm hF hS
  refine V_aload_n dL_law_1009 rfl ?_
  refine V_aload_n dL_law_1010 rfl ?_
  refine V_iload_n dL_law_1011 rfl ?_
  refine V_iconst dL_law_1012 ?_
  refine V_iadd dL_law_1013 ?_
  refine V_rold dL_law_1014 (by decide) (show 0 ≤ i + 1 ∧ i + 1 < (gL0 g : Int) by omega) ?_
  refine V_aload_n dL_law_1015 rfl ?_
  refine V_iload_n dL_law_1016 rfl ?_
  refine V_iconst dL_law_1017 ?_
  refine V_iadd dL_law_1018 ?_
  refine V_rold dL_law_1019 (by decide) (show 0 ≤ i + 2 ∧ i + 2 < (gL0 g : Int) by omega) ?_
  refine V_aload_n dL_law_1020 rfl ?_
  refine V_iload_n dL_law_1021 rfl ?_
  refine V_iconst dL_law_1022 ?_
  refine V_iadd dL_law_1023 ?_
  refine V_rold dL_law_1024 (by decide) (show 0 ≤ i + 3 ∧ i + 3 < (gL0 g : Int) by omega) ?_
  refine V_callV dL_law_1025 (c_mTray g _ A hM1 _ _ _ (ro_b g _) (ro_b g _) (ro_b g _)) sv_RL_125 (sh hS rfl) rfl ⟨⟨by decide, by decide⟩, ⟨(show k + 2 + 0 ≤ 600000 by omega), (show n + 32 + 0 ≤ 7302250 by omega)⟩⟩ (Nat.le_of_ble_eq_true rfl) (fun r1025 s1025 p1025 => ?_)
  obtain ⟨rfl, hM2, hFC⟩ := p1025
  refine V_mask [true, true, true, true] ?_
  refine V_icmpS dL_law_1028 (tgt := 1381) (by decide) ?_
  exact K _ _ _ _ (hC1.fc hFC) hM2 ((hA.tray _ _ _).mono (by omega)) (show k + 2 + 0 ≤ _ by omega) (show n + 32 + 0 ≤ _ by omega)
theorem law_held (g : Gl) (QF : QFT) (σ : St) (A : Ab) (N k n : Nat) (i : Int) (hC : CL σ A) (hM : MR σ A) (hA : AI A N) (hN : N ≤ 90000) (hi : 0 ≤ i ∧ i + 6 ≤ (gL0 g : Int) ∧ gL0 g ≤ 3072) (hk : k ≤ 500000) (hn : n ≤ 5000000) (K : LC g QF i N k n) : V g mL_law room_1 QF 1033 [some (vq (some 4)), some (vq (some 8)), some (vq (some 77)), some (vi i)] [] k n σ := by
  have hS := hC.1
  refine V_aload_n dL_law_1033 rfl ?_
  refine V_aload_n dL_law_1034 rfl ?_
  refine V_iload_n dL_law_1035 rfl ?_
  refine V_iconst dL_law_1036 ?_
  refine V_iadd dL_law_1037 ?_
  refine V_rold dL_law_1038 (by decide) (show 0 ≤ i + 1 ∧ i + 1 < (gL0 g : Int) by omega) ?_
  refine V_callV dL_law_1039 (c_held g _ A hC _ (ro_b g _)) sv_RL_126 (sh hS rfl) rfl ⟨⟨by decide, by decide⟩, ⟨(show k + 0 ≤ 600000 by omega), (show n + 0 ≤ 7302250 by omega)⟩⟩ (Nat.le_of_ble_eq_true rfl) (fun r1039 s1039 p1039 => ?_)
  obtain ⟨rfl, hC1, hF⟩ := rP.c hC p1039
  have hS := hC1.1
  have hM1 := hM.fm hF hS
  refine V_aload_n dL_law_1042 rfl ?_
  refine V_aload_n dL_law_1043 rfl ?_
  refine V_iload_n dL_law_1044 rfl ?_
  refine V_iconst dL_law_1045 ?_
  refine V_iadd dL_law_1046 ?_
  refine V_rold dL_law_1047 (by decide) (show 0 ≤ i + 1 ∧ i + 1 < (gL0 g : Int) by omega) ?_
  refine V_callV dL_law_1048 (c_mHeld g _ A hM1 _ (ro_b g _)) sv_RL_129 (sh hS rfl) rfl ⟨⟨by decide, by decide⟩, ⟨(show k + 0 + 0 ≤ 600000 by omega), (show n + 0 + 0 ≤ 7302250 by omega)⟩⟩ (Nat.le_of_ble_eq_true rfl) (fun r1048 s1048 p1048 => ?_)
  obtain ⟨rfl, hM2, hFC⟩ := rP.m hM1 p1048
  refine V_mask [true, true, true, true] ?_
  refine V_icmpS dL_law_1051 (tgt := 1381) (by decide) ?_
  exact K _ _ _ _ (hC1.fc hFC) hM2 (hA.mono (by omega)) (show k + 0 + 0 ≤ _ by omega) (show n + 0 + 0 ≤ _ by omega)
theorem law_as (g : Gl) (QF : QFT) (σ : St) (A : Ab) (N k n : Nat) (i : Int) (hC : CL σ A) (hM : MR σ A) (hA : AI A N) (hN : N ≤ 90000) (hi : 0 ≤ i ∧ i + 6 ≤ (gL0 g : Int) ∧ gL0 g ≤ 3072) (hk : k ≤ 500000) (hn : n ≤ 5000000) (K : LC g QF i N k n) : V g mL_law room_1 QF 1056 [some (vq (some 4)), some (vq (some 8)), some (vq (some 77)), some (vi i)] [] k n σ := by
  have hS := hC.1
  refine V_aload_n dL_law_1056 rfl ?_
  refine V_aload_n dL_law_1057 rfl ?_
  refine V_iload_n dL_law_1058 rfl ?_
  refine V_iconst dL_law_1059 ?_
  refine V_iadd dL_law_1060 ?_
  refine V_rold dL_law_1061 (by decide) (show 0 ≤ i + 1 ∧ i + 1 < (gL0 g : Int) by omega) ?_
  refine V_aload_n dL_law_1062 rfl ?_
  refine V_iload_n dL_law_1063 rfl ?_
  refine V_iconst dL_law_1064 ?_
  refine V_iadd dL_law_1065 ?_
  refine V_rold dL_law_1066 (by decide) (show 0 ≤ i + 2 ∧ i + 2 < (gL0 g : Int) by omega) ?_
  refine V_aload_n dL_law_1067 rfl ?_
  refine V_iload_n dL_law_1068 rfl ?_
  refine V_iconst dL_law_1069 ?_
  refine V_iadd dL_law_1070 ?_
  refine V_rold dL_law_1071 (by decide) (show 0 ≤ i + 3 ∧ i + 3 < (gL0 g : Int) by omega) ?_
  refine V_callV dL_law_1072 (c_as g _ A N hC hA _ _ _ (ro_b g _) (ro_b g _) (ro_b g _)) sv_RL_130 (sh hS rfl) rfl ⟨⟨by decide, by decide⟩, ⟨(show k + 0 ≤ 600000 by omega), (show n + 0 ≤ 7302250 by omega)⟩⟩ (Nat.le_of_ble_eq_true rfl) (fun r1072 s1072 p1072 => ?_)
  obtain ⟨rfl, hC1, hF⟩ := rP.c hC p1072
  have hS := hC1.1
  have hM1 := hM.fm hF hS
  refine V_aload_n dL_law_1075 rfl ?_
  refine V_aload_n dL_law_1076 rfl ?_
  refine V_iload_n dL_law_1077 rfl ?_
  refine V_iconst dL_law_1078 ?_
  refine V_iadd dL_law_1079 ?_
  refine V_rold dL_law_1080 (by decide) (show 0 ≤ i + 1 ∧ i + 1 < (gL0 g : Int) by omega) ?_
  refine V_aload_n dL_law_1081 rfl ?_
  refine V_iload_n dL_law_1082 rfl ?_
  refine V_iconst dL_law_1083 ?_
  refine V_iadd dL_law_1084 ?_
  refine V_rold dL_law_1085 (by decide) (show 0 ≤ i + 2 ∧ i + 2 < (gL0 g : Int) by omega) ?_
  refine V_aload_n dL_law_1086 rfl ?_
  refine V_iload_n dL_law_1087 rfl ?_
  refine V_iconst dL_law_1088 ?_
  refine V_iadd dL_law_1089 ?_
  refine V_rold dL_law_1090 (by decide) (show 0 ≤ i + 3 ∧ i + 3 < (gL0 g : Int) by omega) ?_
  refine V_callV dL_law_1091 (c_mAs g _ A N hM1 hA _ _ _ (ro_b g _) (ro_b g _) (ro_b g _)) sv_RL_133 (sh hS rfl) rfl ⟨⟨by decide, by decide⟩, ⟨(show k + 0 + 0 ≤ 600000 by omega), (show n + 0 + 0 ≤ 7302250 by omega)⟩⟩ (Nat.le_of_ble_eq_true rfl) (fun r1091 s1091 p1091 => ?_)
  obtain ⟨rfl, hM2, hFC⟩ := rP.m hM1 p1091
  refine V_mask [true, true, true, true] ?_
  refine V_icmpS dL_law_1094 (tgt := 1381) (by decide) ?_
  exact K _ _ _ _ (hC1.fc hFC) hM2 (hA.mono (by omega)) (show k + 0 + 0 ≤ _ by omega) (show n + 0 + 0 ≤ _ by omega)
theorem law_put (g : Gl) (QF : QFT) (σ : St) (A : Ab) (N k n : Nat) (i : Int) (hC : CL σ A) (hM : MR σ A) (hA : AI A N) (hN : N ≤ 90000) (hi : 0 ≤ i ∧ i + 6 ≤ (gL0 g : Int) ∧ gL0 g ≤ 3072) (hk : k ≤ 500000) (hn : n ≤ 5000000) (K : LC g QF i N k n) : V g mL_law room_1 QF 1099 [some (vq (some 4)), some (vq (some 8)), some (vq (some 77)), some (vi i)] [] k n σ := by
  have hS := hC.1
  refine V_aload_n dL_law_1099 rfl ?_
  refine V_aload_n dL_law_1100 rfl ?_
  refine V_iload_n dL_law_1101 rfl ?_
  refine V_iconst dL_law_1102 ?_
  refine V_iadd dL_law_1103 ?_
  refine V_rold dL_law_1104 (by decide) (show 0 ≤ i + 1 ∧ i + 1 < (gL0 g : Int) by omega) ?_
  refine V_aload_n dL_law_1105 rfl ?_
  refine V_iload_n dL_law_1106 rfl ?_
  refine V_iconst dL_law_1107 ?_
  refine V_iadd dL_law_1108 ?_
  refine V_rold dL_law_1109 (by decide) (show 0 ≤ i + 2 ∧ i + 2 < (gL0 g : Int) by omega) ?_
  refine V_aload_n dL_law_1110 rfl ?_
  refine V_iload_n dL_law_1111 rfl ?_
  refine V_iconst dL_law_1112 ?_
  refine V_iadd dL_law_1113 ?_
  refine V_rold dL_law_1114 (by decide) (show 0 ≤ i + 3 ∧ i + 3 < (gL0 g : Int) by omega) ?_
  refine V_i2l dL_law_1115 ?_
  refine V_bipush dL_law_1116 (by decide) ?_
  refine V_lshl dL_law_1118 ?_
  refine V_aload_n dL_law_1119 rfl ?_
  refine V_iload_n dL_law_1120 rfl ?_
  refine V_iconst dL_law_1121 ?_
  refine V_iadd dL_law_1122 ?_
  refine V_rold dL_law_1123 (by decide) (show 0 ≤ i + 4 ∧ i + 4 < (gL0 g : Int) by omega) ?_
  refine V_i2l dL_law_1124 ?_
  refine V_ldc2 dL_law_1125 sk_RL_134 ?_
  refine V_land dL_law_1128 ?_
  refine V_lor dL_law_1129 ?_
  refine V_callV dL_law_1130 (c_put g _ A N hC hA _ _ _ (ro_b g _) (ro_b g _)) sv_RL_136 (sh hS rfl) rfl ⟨⟨by decide, by decide⟩, ⟨(show k + 0 ≤ 600000 by omega), (show n + 0 ≤ 7302250 by omega)⟩⟩ (Nat.le_of_ble_eq_true rfl) (fun r1130 s1130 p1130 => ?_)
  obtain ⟨rfl, hC1, hF⟩ := p1130
  have hS := hC1.1
  have hM1 := hM.fm hF hS
  refine V_aload_n dL_law_1133 rfl ?_
  refine V_aload_n dL_law_1134 rfl ?_
  refine V_iload_n dL_law_1135 rfl ?_
  refine V_iconst dL_law_1136 ?_
  refine V_iadd dL_law_1137 ?_
  refine V_rold dL_law_1138 (by decide) (show 0 ≤ i + 1 ∧ i + 1 < (gL0 g : Int) by omega) ?_
  refine V_aload_n dL_law_1139 rfl ?_
  refine V_iload_n dL_law_1140 rfl ?_
  refine V_iconst dL_law_1141 ?_
  refine V_iadd dL_law_1142 ?_
  refine V_rold dL_law_1143 (by decide) (show 0 ≤ i + 2 ∧ i + 2 < (gL0 g : Int) by omega) ?_
  refine V_aload_n dL_law_1144 rfl ?_
  refine V_iload_n dL_law_1145 rfl ?_
  refine V_iconst dL_law_1146 ?_
  refine V_iadd dL_law_1147 ?_
  refine V_rold dL_law_1148 (by decide) (show 0 ≤ i + 3 ∧ i + 3 < (gL0 g : Int) by omega) ?_
  refine V_i2l dL_law_1149 ?_
  refine V_bipush dL_law_1150 (by decide) ?_
  refine V_lshl dL_law_1152 ?_
  refine V_aload_n dL_law_1153 rfl ?_
  refine V_iload_n dL_law_1154 rfl ?_
  refine V_iconst dL_law_1155 ?_
  refine V_iadd dL_law_1156 ?_
  refine V_rold dL_law_1157 (by decide) (show 0 ≤ i + 4 ∧ i + 4 < (gL0 g : Int) by omega) ?_
  refine V_i2l dL_law_1158 ?_
  refine V_ldc2 dL_law_1159 sk_RL_134 ?_
  refine V_land dL_law_1162 ?_
  refine V_lor dL_law_1163 ?_
  refine V_callV dL_law_1164 (c_mPut g _ A N hM1 hA _ _ _ (ro_b g _) (ro_b g _)) sv_RL_140 (sh hS rfl) rfl ⟨⟨by decide, by decide⟩, ⟨(show k + 0 + 0 ≤ 600000 by omega), (show n + 0 + 0 ≤ 7302250 by omega)⟩⟩ (Nat.le_of_ble_eq_true rfl) (fun r1164 s1164 p1164 => ?_)
  obtain ⟨rfl, hM2, hFC⟩ := p1164
  refine V_mask [true, true, true, true] ?_
  refine V_icmpS dL_law_1167 (tgt := 1381) (by decide) ?_
  exact K _ _ _ _ (hC1.fc hFC) hM2 ((hA.put _ _ _).mono (by omega)) (show k + 0 + 0 ≤ _ by omega) (show n + 0 + 0 ≤ _ by omega)
theorem law_fill (g : Gl) (QF : QFT) (σ : St) (A : Ab) (N k n : Nat) (i : Int) (hC : CL σ A) (hM : MR σ A) (hA : AI A N) (hN : N ≤ 90000) (hi : 0 ≤ i ∧ i + 6 ≤ (gL0 g : Int) ∧ gL0 g ≤ 3072) (hk : k ≤ 500000) (hn : n ≤ 5000000) (K : LC g QF i N k n) : V g mL_law room_1 QF 1206 [some (vq (some 4)), some (vq (some 8)), some (vq (some 77)), some (vi i)] [] k n σ := by
  have hS := hC.1
  refine V_aload_n dL_law_1206 rfl ?_
  refine V_aload_n dL_law_1207 rfl ?_
  refine V_iload_n dL_law_1208 rfl ?_
  refine V_iconst dL_law_1209 ?_
  refine V_iadd dL_law_1210 ?_
  refine V_rold dL_law_1211 (by decide) (show 0 ≤ i + 1 ∧ i + 1 < (gL0 g : Int) by omega) ?_
  refine V_aload_n dL_law_1212 rfl ?_
  refine V_iload_n dL_law_1213 rfl ?_
  refine V_iconst dL_law_1214 ?_
  refine V_iadd dL_law_1215 ?_
  refine V_rold dL_law_1216 (by decide) (show 0 ≤ i + 2 ∧ i + 2 < (gL0 g : Int) by omega) ?_
  refine V_aload_n dL_law_1217 rfl ?_
  refine V_iload_n dL_law_1218 rfl ?_
  refine V_iconst dL_law_1219 ?_
  refine V_iadd dL_law_1220 ?_
  refine V_rold dL_law_1221 (by decide) (show 0 ≤ i + 3 ∧ i + 3 < (gL0 g : Int) by omega) ?_
  refine V_callV dL_law_1222 (c_fillQ g _ A N hC hA _ _ _ (ro_b g _) (ro_b g _) (ro_b g _)) sv_RL_146 (sh hS rfl) rfl ⟨⟨by decide, by decide⟩, ⟨(show k + 0 ≤ 600000 by omega), (show n + 0 ≤ 7302250 by omega)⟩⟩ (Nat.le_of_ble_eq_true rfl) (fun r1222 s1222 p1222 => ?_)
  obtain ⟨rfl, hC1, hF⟩ := p1222
  have hS := hC1.1
  have hM1 := hM.fm hF hS
  refine V_aload_n dL_law_1225 rfl ?_
  refine V_aload_n dL_law_1226 rfl ?_
  refine V_iload_n dL_law_1227 rfl ?_
  refine V_iconst dL_law_1228 ?_
  refine V_iadd dL_law_1229 ?_
  refine V_rold dL_law_1230 (by decide) (show 0 ≤ i + 1 ∧ i + 1 < (gL0 g : Int) by omega) ?_
  refine V_aload_n dL_law_1231 rfl ?_
  refine V_iload_n dL_law_1232 rfl ?_
  refine V_iconst dL_law_1233 ?_
  refine V_iadd dL_law_1234 ?_
  refine V_rold dL_law_1235 (by decide) (show 0 ≤ i + 2 ∧ i + 2 < (gL0 g : Int) by omega) ?_
  refine V_aload_n dL_law_1236 rfl ?_
  refine V_iload_n dL_law_1237 rfl ?_
  refine V_iconst dL_law_1238 ?_
  refine V_iadd dL_law_1239 ?_
  refine V_rold dL_law_1240 (by decide) (show 0 ≤ i + 3 ∧ i + 3 < (gL0 g : Int) by omega) ?_
  refine V_callV dL_law_1241 (c_mFill g _ A N hM1 hA _ _ _ (ro_b g _) (ro_b g _) (ro_b g _)) sv_RL_149 (sh hS rfl) rfl ⟨⟨by decide, by decide⟩, ⟨(show k + 0 + 0 ≤ 600000 by omega), (show n + 0 + 0 ≤ 7302250 by omega)⟩⟩ (Nat.le_of_ble_eq_true rfl) (fun r1241 s1241 p1241 => ?_)
  obtain ⟨rfl, hM2, hFC⟩ := p1241
  refine V_mask [true, true, true, true] ?_
  refine V_icmpS dL_law_1244 (tgt := 1381) (by decide) ?_
  exact K _ _ _ _ (hC1.fc hFC) hM2 ((hA.fill _ _ _).mono (by omega)) (show k + 0 + 0 ≤ _ by omega) (show n + 0 + 0 ≤ _ by omega)
theorem law_judge (g : Gl) (QF : QFT) (σ : St) (A : Ab) (N k n : Nat) (i : Int) (hC : CL σ A) (hM : MR σ A) (hA : AI A N) (hN : N ≤ 90000) (hi : 0 ≤ i ∧ i + 6 ≤ (gL0 g : Int) ∧ gL0 g ≤ 3072) (hk : k ≤ 500000) (hn : n ≤ 5000000) (K : LC g QF i N k n) : V g mL_law room_1 QF 1249 [some (vq (some 4)), some (vq (some 8)), some (vq (some 77)), some (vi i)] [] k n σ := by
  have hS := hC.1
  refine V_aload_n dL_law_1249 rfl ?_
  refine V_aload_n dL_law_1250 rfl ?_
  refine V_iload_n dL_law_1251 rfl ?_
  refine V_iconst dL_law_1252 ?_
  refine V_iadd dL_law_1253 ?_
  refine V_rold dL_law_1254 (by decide) (show 0 ≤ i + 1 ∧ i + 1 < (gL0 g : Int) by omega) ?_
  refine V_aload_n dL_law_1255 rfl ?_
  refine V_iload_n dL_law_1256 rfl ?_
  refine V_iconst dL_law_1257 ?_
  refine V_iadd dL_law_1258 ?_
  refine V_rold dL_law_1259 (by decide) (show 0 ≤ i + 2 ∧ i + 2 < (gL0 g : Int) by omega) ?_
  refine V_aload_n dL_law_1260 rfl ?_
  refine V_iload_n dL_law_1261 rfl ?_
  refine V_iconst dL_law_1262 ?_
  refine V_iadd dL_law_1263 ?_
  refine V_rold dL_law_1264 (by decide) (show 0 ≤ i + 3 ∧ i + 3 < (gL0 g : Int) by omega) ?_
  refine V_callV dL_law_1265 (c_judgeQ g _ A N hC hA _ _ _ (ro_b g _) (ro_b g _) (ro_b g _)) sv_RL_150 (sh hS rfl) rfl ⟨⟨by decide, by decide⟩, ⟨(show k + 0 ≤ 600000 by omega), (show n + 0 ≤ 7302250 by omega)⟩⟩ (Nat.le_of_ble_eq_true rfl) (fun r1265 s1265 p1265 => ?_)
  obtain ⟨rfl, hC1, hF⟩ := PX.c hC p1265
  have hS := hC1.1
  have hM1 := hM.fm hF hS
  refine V_aload_n dL_law_1268 rfl ?_
  refine V_aload_n dL_law_1269 rfl ?_
  refine V_iload_n dL_law_1270 rfl ?_
  refine V_iconst dL_law_1271 ?_
  refine V_iadd dL_law_1272 ?_
  refine V_rold dL_law_1273 (by decide) (show 0 ≤ i + 1 ∧ i + 1 < (gL0 g : Int) by omega) ?_
  refine V_aload_n dL_law_1274 rfl ?_
  refine V_iload_n dL_law_1275 rfl ?_
  refine V_iconst dL_law_1276 ?_
  refine V_iadd dL_law_1277 ?_
  refine V_rold dL_law_1278 (by decide) (show 0 ≤ i + 2 ∧ i + 2 < (gL0 g : Int) by omega) ?_
  refine V_aload_n dL_law_1279 rfl ?_
  refine V_iload_n dL_law_1280 rfl ?_
  refine V_iconst dL_law_1281 ?_
  refine V_iadd dL_law_1282 ?_
  refine V_rold dL_law_1283 (by decide) (show 0 ≤ i + 3 ∧ i + 3 < (gL0 g : Int) by omega) ?_
  refine V_callV dL_law_1284 (c_mJudge g _ A N hM1 hA _ _ _ (ro_b g _) (ro_b g _) (ro_b g _)) sv_RL_153 (sh hS rfl) rfl ⟨⟨by decide, by decide⟩, ⟨(show k + 0 + 0 ≤ 600000 by omega), (show n + 0 + 0 ≤ 7302250 by omega)⟩⟩ (Nat.le_of_ble_eq_true rfl) (fun r1284 s1284 p1284 => ?_)
  obtain ⟨rfl, hM2, hFC⟩ := PMS.m hM1 p1284
  refine V_mask [true, true, true, true] ?_
  refine V_icmpS dL_law_1287 (tgt := 1381) (by decide) ?_
  exact K _ _ _ _ (hC1.fc hFC) hM2 (hA.mono (by omega)) (show k + 0 + 0 ≤ _ by omega) (show n + 0 + 0 ≤ _ by omega)
theorem law_move (g : Gl) (QF : QFT) (σ : St) (A : Ab) (N k n : Nat) (i : Int) (hC : CL σ A) (hM : MR σ A) (hA : AI A N) (hN : N ≤ 90000) (hi : 0 ≤ i ∧ i + 6 ≤ (gL0 g : Int) ∧ gL0 g ≤ 3072) (hk : k ≤ 500000) (hn : n ≤ 5000000) (K : LC g QF i N k n) : V g mL_law room_1 QF 1292 [some (vq (some 4)), some (vq (some 8)), some (vq (some 77)), some (vi i)] [] k n σ := by
  have hS := hC.1
  refine V_aload_n dL_law_1292 rfl ?_
  refine V_aload_n dL_law_1293 rfl ?_
  refine V_iload_n dL_law_1294 rfl ?_
  refine V_iconst dL_law_1295 ?_
  refine V_iadd dL_law_1296 ?_
  refine V_rold dL_law_1297 (by decide) (show 0 ≤ i + 1 ∧ i + 1 < (gL0 g : Int) by omega) ?_
  refine V_aload_n dL_law_1298 rfl ?_
  refine V_iload_n dL_law_1299 rfl ?_
  refine V_iconst dL_law_1300 ?_
  refine V_iadd dL_law_1301 ?_
  refine V_rold dL_law_1302 (by decide) (show 0 ≤ i + 2 ∧ i + 2 < (gL0 g : Int) by omega) ?_
  refine V_aload_n dL_law_1303 rfl ?_
  refine V_iload_n dL_law_1304 rfl ?_
  refine V_iconst dL_law_1305 ?_
  refine V_iadd dL_law_1306 ?_
  refine V_rold dL_law_1307 (by decide) (show 0 ≤ i + 3 ∧ i + 3 < (gL0 g : Int) by omega) ?_
  refine V_aload_n dL_law_1308 rfl ?_
  refine V_iload_n dL_law_1309 rfl ?_
  refine V_iconst dL_law_1310 ?_
  refine V_iadd dL_law_1311 ?_
  refine V_rold dL_law_1312 (by decide) (show 0 ≤ i + 4 ∧ i + 4 < (gL0 g : Int) by omega) ?_
  refine V_aload_n dL_law_1313 rfl ?_
  refine V_iload_n dL_law_1314 rfl ?_
  refine V_iconst dL_law_1315 ?_
  refine V_iadd dL_law_1316 ?_
  refine V_rold dL_law_1317 (by decide) (show 0 ≤ i + 5 ∧ i + 5 < (gL0 g : Int) by omega) ?_
  refine V_callV dL_law_1318 (c_move g _ A N hC hA _ _ _ _ _ (ro_b g _) (ro_b g _) (ro_b g _) (ro_b g _) (ro_b g _)) sv_RL_154 (sh hS rfl) rfl ⟨⟨by decide, by decide⟩, ⟨(show k + 0 ≤ 600000 by omega), (show n + 0 ≤ 7302250 by omega)⟩⟩ (Nat.le_of_ble_eq_true rfl) (fun r1318 s1318 p1318 => ?_)
  obtain ⟨rfl, hC1, hF⟩ := p1318
  have hS := hC1.1
  have hM1 := hM.fm hF hS
  refine V_aload_n dL_law_1321 rfl ?_
  refine V_aload_n dL_law_1322 rfl ?_
  refine V_iload_n dL_law_1323 rfl ?_
  refine V_iconst dL_law_1324 ?_
  refine V_iadd dL_law_1325 ?_
  refine V_rold dL_law_1326 (by decide) (show 0 ≤ i + 1 ∧ i + 1 < (gL0 g : Int) by omega) ?_
  refine V_aload_n dL_law_1327 rfl ?_
  refine V_iload_n dL_law_1328 rfl ?_
  refine V_iconst dL_law_1329 ?_
  refine V_iadd dL_law_1330 ?_
  refine V_rold dL_law_1331 (by decide) (show 0 ≤ i + 2 ∧ i + 2 < (gL0 g : Int) by omega) ?_
  refine V_aload_n dL_law_1332 rfl ?_
  refine V_iload_n dL_law_1333 rfl ?_
  refine V_iconst dL_law_1334 ?_
  refine V_iadd dL_law_1335 ?_
  refine V_rold dL_law_1336 (by decide) (show 0 ≤ i + 3 ∧ i + 3 < (gL0 g : Int) by omega) ?_
  refine V_aload_n dL_law_1337 rfl ?_
  refine V_iload_n dL_law_1338 rfl ?_
  refine V_iconst dL_law_1339 ?_
  refine V_iadd dL_law_1340 ?_
  refine V_rold dL_law_1341 (by decide) (show 0 ≤ i + 4 ∧ i + 4 < (gL0 g : Int) by omega) ?_
  refine V_aload_n dL_law_1342 rfl ?_
  refine V_iload_n dL_law_1343 rfl ?_
  refine V_iconst dL_law_1344 ?_
  refine V_iadd dL_law_1345 ?_
  refine V_rold dL_law_1346 (by decide) (show 0 ≤ i + 5 ∧ i + 5 < (gL0 g : Int) by omega) ?_
  refine V_callV dL_law_1347 (c_mMove g _ A N hM1 hA _ _ _ _ _ (ro_b g _) (ro_b g _) (ro_b g _) (ro_b g _) (ro_b g _)) sv_RL_158 (sh hS rfl) rfl ⟨⟨by decide, by decide⟩, ⟨(show k + 0 + 0 ≤ 600000 by omega), (show n + 0 + 0 ≤ 7302250 by omega)⟩⟩ (Nat.le_of_ble_eq_true rfl) (fun r1347 s1347 p1347 => ?_)
  obtain ⟨rfl, hM2, hFC⟩ := p1347
  refine V_mask [true, true, true, true] ?_
  refine V_icmpS dL_law_1350 (tgt := 1381) (by decide) ?_
  exact K _ _ _ _ (hC1.fc hFC) hM2 ((hA.move _ _ _ _ _).mono (by omega)) (show k + 0 + 0 ≤ _ by omega) (show n + 0 + 0 ≤ _ by omega)
theorem law_image (g : Gl) (QF : QFT) (σ : St) (A : Ab) (N k n : Nat) (i : Int) (hC : CL σ A) (hM : MR σ A) (hA : AI A N) (hN : N ≤ 90000) (hi : 0 ≤ i ∧ i + 6 ≤ (gL0 g : Int) ∧ gL0 g ≤ 3072) (hk : k ≤ 500000) (hn : n ≤ 5000000) (K : LC g QF i N k n) : V g mL_law room_1 QF 1355 [some (vq (some 4)), some (vq (some 8)), some (vq (some 77)), some (vi i)] [] k n σ := by
  have hS := hC.1
  refine V_aload_n dL_law_1355 rfl ?_
  refine V_callV dL_law_1356 (c_image g _ A N hC hA) sv_RL_159 (sh hS rfl) rfl ⟨⟨by decide, by decide⟩, ⟨(show k + 9 ≤ 600000 by omega), (show n + 36 ≤ 7302250 by omega)⟩⟩ (Nat.le_of_ble_eq_true rfl) (fun r1356 s1356 p1356 => ?_)
  obtain ⟨rfl, hC1, hF⟩ := p1356
  have hS := hC1.1
  have hM1 := hM.fm hF hS
  refine V_aload_n dL_law_1359 rfl ?_
  refine V_callV dL_law_1360 (c_mImage g _ A hM1) sv_RL_162 (sh hS rfl) rfl ⟨⟨by decide, by decide⟩, ⟨(show k + 9 + 0 ≤ 600000 by omega), (show n + 36 + 0 ≤ 7302250 by omega)⟩⟩ (Nat.le_of_ble_eq_true rfl) (fun r1360 s1360 p1360 => ?_)
  obtain ⟨rfl, hM2, hFC⟩ := p1360
  refine V_mask [true, true, true, true] ?_
  refine V_icmpS dL_law_1363 (tgt := 1381) (by decide) ?_
  exact K _ _ _ _ (hC1.fc hFC) hM2 (hA.image.mono (by omega)) (show k + 9 + 0 ≤ _ by omega) (show n + 36 + 0 ≤ _ by omega)
theorem law_undo (g : Gl) (QF : QFT) (σ : St) (A : Ab) (N k n : Nat) (i : Int) (hC : CL σ A) (hM : MR σ A) (hA : AI A N) (hN : N ≤ 90000) (hi : 0 ≤ i ∧ i + 6 ≤ (gL0 g : Int) ∧ gL0 g ≤ 3072) (hk : k ≤ 500000) (hn : n ≤ 5000000) (K : LC g QF i N k n) : V g mL_law room_1 QF 1368 [some (vq (some 4)), some (vq (some 8)), some (vq (some 77)), some (vi i)] [] k n σ := by
  have hS := hC.1
  refine V_aload_n dL_law_1368 rfl ?_
  refine V_callV dL_law_1369 (c_undo g _ A N hC hA) sv_RL_163 (sh hS rfl) rfl ⟨⟨by decide, by decide⟩, ⟨(show k + 9 ≤ 600000 by omega), (show n + 36 ≤ 7302250 by omega)⟩⟩ (Nat.le_of_ble_eq_true rfl) (fun r1369 s1369 p1369 => ?_)
  obtain ⟨rfl, hC1, hF⟩ := p1369
  have hS := hC1.1
  have hM1 := hM.fm hF hS
  refine V_aload_n dL_law_1372 rfl ?_
  refine V_callV dL_law_1373 (c_mUndo g _ A N hM1 hA) sv_RL_166 (sh hS rfl) rfl ⟨⟨by decide, by decide⟩, ⟨(show k + 9 + 0 ≤ 600000 by omega), (show n + 36 + 0 ≤ 7302250 by omega)⟩⟩ (Nat.le_of_ble_eq_true rfl) (fun r1373 s1373 p1373 => ?_)
  obtain ⟨rfl, hM2, hFC⟩ := p1373
  refine V_mask [true, true, true, true] ?_
  refine V_icmpS dL_law_1376 (tgt := 1381) (by decide) ?_
  exact K _ _ _ _ (hC1.fc hFC) hM2 (hA.undo.mono (by omega)) (show k + 9 + 0 ≤ _ by omega) (show n + 36 + 0 ≤ _ by omega)