/-! The cases of the law's switch. -/
section CASES
variable {l : Launch} {D : va_G} {cy : Nat → ClassId} {b Ls : Nat} {xs : Nat → Int32} {sa : Nat → Nat} {cells slots i0 : Nat} {L : List Nat} {Sh : Nat → Shp} {q qi : Nat → Nat} {S : GS} {N : Mem} {K : Mej}
abbrev lv0 (b : Nat) (q : Nat → Nat) (i0 : Nat) : LV := [(0, .ref b), (1, .ref (q 0)), (2, .ref (q 40)), (3, .ref (q 99)), (4, .int (nI i0))]
def NX (l : Launch) (D : va_G) (cy : Nat → ClassId) (b Ls : Nat) (xs : Nat → Int32) (sa : Nat → Nat) (cells slots i0 : Nat) (L : List Nat) (Sh : Nat → Shp) (q qi : Nat → Nat) : Prop := ∀ S N K, Inv S N K → EL l D cy b Ls xs sa (cells + 1) (slots + 6) 1047 (lv0 b q i0) [] L Sh (km qi N) (kj qi K)
set_option maxRecDepth 100000 in
theorem lw_c0 (hW : WOK L Sh q qi) (I : Inv S N K) (hi : i0 + 5 < Ls) (hL : Ls ≤ 3072) (hc : cells ≤ 700) (hs : slots ≤ 30000) (nx : NX l D cy b Ls xs sa cells slots i0 L Sh q qi) : EL l D cy b Ls xs sa cells slots 156 (lv0 b q i0) [] L Sh (km qi N) (kj qi K) := by
  refine G_aload_n dL_law_156 rfl rfl ?_
  refine L_arg (i0 := i0) (c := 1) (z := 1) dL_law_157 dL_law_158 dL_law_160 dL_law_161 dL_law_162 rfl rfl (by decide) (by omega) hL rfl ?_
  refine L_arg (i0 := i0) (c := 2) (z := 2) dL_law_163 dL_law_164 dL_law_166 dL_law_167 dL_law_168 rfl rfl (by decide) (by omega) hL rfl ?_
  refine L_arg (i0 := i0) (c := 3) (z := 3) dL_law_169 dL_law_170 dL_law_172 dL_law_173 dL_law_174 rfl rfl (by decide) (by omega) hL rfl ?_
  refine L_arg (i0 := i0) (c := 4) (z := 4) dL_law_175 dL_law_176 dL_law_178 dL_law_179 dL_law_180 rfl rfl (by decide) (by omega) hL rfl ?_
  refine L_bool dL_law_181 (by decide) dL_law_184 dL_law_185 (by decide) dL_law_188 rfl ?_
  refine G_callK (i := 0) (ci := 3) (d1 := 60) (rest := []) [(.int (xs (i0 + 1))), (.int (xs (i0 + 2))), (.int (xs (i0 + 3))), (.int (bI (decide (¬ xs (i0 + 4) = 0))))] dL_law_189 ml_L_23 (by decide) hW rfl rfl rfl rfl (Nat.le_of_ble_eq_true rfl) (c_X3_family (by decide) I.1 I.2.2.1 ) (by decide) (by decide) (show cells ≤ 601024 by omega) (show slots ≤ 7293034 by omega) rfl ?_
  rintro r N1 K1 ⟨rfl, R1, F1⟩
  refine G_st (st' := [.int _]) rfl rfl ?_
  refine G_aload_n dL_law_192 rfl rfl ?_
  refine L_arg (i0 := i0) (c := 1) (z := 1) dL_law_193 dL_law_194 dL_law_196 dL_law_197 dL_law_198 rfl rfl (by decide) (by omega) hL rfl ?_
  refine L_arg (i0 := i0) (c := 2) (z := 2) dL_law_199 dL_law_200 dL_law_202 dL_law_203 dL_law_204 rfl rfl (by decide) (by omega) hL rfl ?_
  refine L_arg (i0 := i0) (c := 3) (z := 3) dL_law_205 dL_law_206 dL_law_208 dL_law_209 dL_law_210 rfl rfl (by decide) (by omega) hL rfl ?_
  refine L_arg (i0 := i0) (c := 4) (z := 4) dL_law_211 dL_law_212 dL_law_214 dL_law_215 dL_law_216 rfl rfl (by decide) (by omega) hL rfl ?_
  refine L_bool dL_law_217 (by decide) dL_law_220 dL_law_221 (by decide) dL_law_224 rfl ?_
  refine G_callK (i := 40) (ci := 4) (d1 := 60) (rest := [.int _]) [(.int (xs (i0 + 1))), (.int (xs (i0 + 2))), (.int (xs (i0 + 3))), (.int (bI (decide (¬ xs (i0 + 4) = 0))))] dL_law_225 ml_L_27 (by decide) hW rfl rfl rfl rfl (Nat.le_of_ble_eq_true rfl) (c_X4_family (by decide) (I.2.1.fx F1) I.2.2.1 ) (by decide) (by decide) (show cells ≤ 601024 by omega) (show slots ≤ 7293034 by omega) rfl ?_
  rintro r N2 K2 ⟨rfl, Y2, F2, rfl⟩
  refine G_st (st' := [.int _, .int _]) rfl rfl ?_
  refine G_icmp_eq (tgt := 1047) dL_law_228 (by decide) rfl (fun _ => ?_) (fun c => absurd rfl c)
  exact G_widen (by omega) (by omega) (nx _ _ _ ⟨R1.fy F2, Y2, wf_family I.2.2.1 (xs (i0 + 1)) (xs (i0 + 2)) (xs (i0 + 3)) (decide (¬ xs (i0 + 4) = 0)), ch_family S (xs (i0 + 1)) (xs (i0 + 2)) (xs (i0 + 3)) (decide (¬ xs (i0 + 4) = 0))⟩)
set_option maxRecDepth 100000 in
theorem lw_c1 (hW : WOK L Sh q qi) (I : Inv S N K) (hi : i0 + 5 < Ls) (hL : Ls ≤ 3072) (hc : cells ≤ 700) (hs : slots ≤ 30000) (nx : NX l D cy b Ls xs sa cells slots i0 L Sh q qi) : EL l D cy b Ls xs sa cells slots 233 (lv0 b q i0) [] L Sh (km qi N) (kj qi K) := by
  refine G_aload_n dL_law_233 rfl rfl ?_
  refine L_arg (i0 := i0) (c := 1) (z := 1) dL_law_234 dL_law_235 dL_law_237 dL_law_238 dL_law_239 rfl rfl (by decide) (by omega) hL rfl ?_
  refine L_arg (i0 := i0) (c := 2) (z := 2) dL_law_240 dL_law_241 dL_law_243 dL_law_244 dL_law_245 rfl rfl (by decide) (by omega) hL rfl ?_
  refine L_arg (i0 := i0) (c := 3) (z := 3) dL_law_246 dL_law_247 dL_law_249 dL_law_250 dL_law_251 rfl rfl (by decide) (by omega) hL rfl ?_
  refine L_arg (i0 := i0) (c := 4) (z := 4) dL_law_252 dL_law_253 dL_law_255 dL_law_256 dL_law_257 rfl rfl (by decide) (by omega) hL rfl ?_
  refine G_callK (i := 0) (ci := 3) (d1 := 60) (rest := []) [(.int (xs (i0 + 1))), (.int (xs (i0 + 2))), (.int (xs (i0 + 3))), (.int (xs (i0 + 4)))] dL_law_258 ml_L_28 (by decide) hW rfl rfl rfl rfl (Nat.le_of_ble_eq_true rfl) (c_X3_weeks (by decide) I.1 I.2.2.1 ) (by decide) (by decide) (show cells ≤ 601024 by omega) (show slots ≤ 7293034 by omega) rfl ?_
  rintro r N1 K1 ⟨rfl, R1, F1⟩
  refine G_st (st' := [.int _]) rfl rfl ?_
  refine G_aload_n dL_law_261 rfl rfl ?_
  refine L_arg (i0 := i0) (c := 1) (z := 1) dL_law_262 dL_law_263 dL_law_265 dL_law_266 dL_law_267 rfl rfl (by decide) (by omega) hL rfl ?_
  refine L_arg (i0 := i0) (c := 2) (z := 2) dL_law_268 dL_law_269 dL_law_271 dL_law_272 dL_law_273 rfl rfl (by decide) (by omega) hL rfl ?_
  refine L_arg (i0 := i0) (c := 3) (z := 3) dL_law_274 dL_law_275 dL_law_277 dL_law_278 dL_law_279 rfl rfl (by decide) (by omega) hL rfl ?_
  refine L_arg (i0 := i0) (c := 4) (z := 4) dL_law_280 dL_law_281 dL_law_283 dL_law_284 dL_law_285 rfl rfl (by decide) (by omega) hL rfl ?_
  refine G_callK (i := 40) (ci := 4) (d1 := 60) (rest := [.int _]) [(.int (xs (i0 + 1))), (.int (xs (i0 + 2))), (.int (xs (i0 + 3))), (.int (xs (i0 + 4)))] dL_law_286 ml_L_32 (by decide) hW rfl rfl rfl rfl (Nat.le_of_ble_eq_true rfl) (c_X4_weeks (by decide) (I.2.1.fx F1) I.2.2.1 ) (by decide) (by decide) (show cells ≤ 601024 by omega) (show slots ≤ 7293034 by omega) rfl ?_
  rintro r N2 K2 ⟨rfl, Y2, F2, rfl⟩
  refine G_st (st' := [.int _, .int _]) rfl rfl ?_
  refine G_icmp_eq (tgt := 1047) dL_law_289 (by decide) rfl (fun _ => ?_) (fun c => absurd rfl c)
  exact G_widen (by omega) (by omega) (nx _ _ _ ⟨R1.fy F2, Y2, wf_weeks I.2.2.1 (xs (i0 + 1)) (xs (i0 + 2)) (xs (i0 + 3)) (xs (i0 + 4)), ch_weeks S (xs (i0 + 1)) (xs (i0 + 2)) (xs (i0 + 3)) (xs (i0 + 4))⟩)
set_option maxRecDepth 100000 in
theorem lw_c2 (hW : WOK L Sh q qi) (I : Inv S N K) (hi : i0 + 5 < Ls) (hL : Ls ≤ 3072) (hc : cells ≤ 700) (hs : slots ≤ 30000) (nx : NX l D cy b Ls xs sa cells slots i0 L Sh q qi) : EL l D cy b Ls xs sa cells slots 294 (lv0 b q i0) [] L Sh (km qi N) (kj qi K) := by
  refine G_aload_n dL_law_294 rfl rfl ?_
  refine L_arg (i0 := i0) (c := 1) (z := 1) dL_law_295 dL_law_296 dL_law_298 dL_law_299 dL_law_300 rfl rfl (by decide) (by omega) hL rfl ?_
  refine L_arg (i0 := i0) (c := 2) (z := 2) dL_law_301 dL_law_302 dL_law_304 dL_law_305 dL_law_306 rfl rfl (by decide) (by omega) hL rfl ?_
  refine G_callK (i := 0) (ci := 3) (d1 := 60) (rest := []) [(.int (xs (i0 + 1))), (.int (xs (i0 + 2)))] dL_law_307 ml_L_33 (by decide) hW rfl rfl rfl rfl (Nat.le_of_ble_eq_true rfl) (c_X3_wish (by decide) I.1 I.2.2.1 ) (by decide) (by decide) (show cells ≤ 601024 by omega) (show slots ≤ 7293034 by omega) rfl ?_
  rintro r N1 K1 ⟨rfl, R1, F1⟩
  refine G_st (st' := [.int _]) rfl rfl ?_
  refine G_aload_n dL_law_310 rfl rfl ?_
  refine L_arg (i0 := i0) (c := 1) (z := 1) dL_law_311 dL_law_312 dL_law_314 dL_law_315 dL_law_316 rfl rfl (by decide) (by omega) hL rfl ?_
  refine L_arg (i0 := i0) (c := 2) (z := 2) dL_law_317 dL_law_318 dL_law_320 dL_law_321 dL_law_322 rfl rfl (by decide) (by omega) hL rfl ?_
  refine G_callK (i := 40) (ci := 4) (d1 := 60) (rest := [.int _]) [(.int (xs (i0 + 1))), (.int (xs (i0 + 2)))] dL_law_323 ml_L_36 (by decide) hW rfl rfl rfl rfl (Nat.le_of_ble_eq_true rfl) (c_X4_wish (by decide) (I.2.1.fx F1) I.2.2.1 ) (by decide) (by decide) (show cells ≤ 601024 by omega) (show slots ≤ 7293034 by omega) rfl ?_
  rintro r N2 K2 ⟨rfl, Y2, F2, rfl⟩
  refine G_st (st' := [.int _, .int _]) rfl rfl ?_
  refine G_icmp_eq (tgt := 1047) dL_law_326 (by decide) rfl (fun _ => ?_) (fun c => absurd rfl c)
  exact G_widen (by omega) (by omega) (nx _ _ _ ⟨R1.fy F2, Y2, wf_wish I.2.2.1 (xs (i0 + 1)) (xs (i0 + 2)), ch_wish S (xs (i0 + 1)) (xs (i0 + 2))⟩)
set_option maxRecDepth 100000 in
theorem lw_c3 (hW : WOK L Sh q qi) (I : Inv S N K) (hi : i0 + 5 < Ls) (hL : Ls ≤ 3072) (hc : cells ≤ 700) (hs : slots ≤ 30000) (nx : NX l D cy b Ls xs sa cells slots i0 L Sh q qi) : EL l D cy b Ls xs sa cells slots 331 (lv0 b q i0) [] L Sh (km qi N) (kj qi K) := by
  refine G_aload_n dL_law_331 rfl rfl ?_
  refine L_arg (i0 := i0) (c := 1) (z := 1) dL_law_332 dL_law_333 dL_law_335 dL_law_336 dL_law_337 rfl rfl (by decide) (by omega) hL rfl ?_
  refine L_arg (i0 := i0) (c := 2) (z := 2) dL_law_338 dL_law_339 dL_law_341 dL_law_342 dL_law_343 rfl rfl (by decide) (by omega) hL rfl ?_
  refine L_arg (i0 := i0) (c := 3) (z := 3) dL_law_344 dL_law_345 dL_law_347 dL_law_348 dL_law_349 rfl rfl (by decide) (by omega) hL rfl ?_
  refine L_arg (i0 := i0) (c := 4) (z := 4) dL_law_350 dL_law_351 dL_law_353 dL_law_354 dL_law_355 rfl rfl (by decide) (by omega) hL rfl ?_
  refine L_arg (i0 := i0) (c := 5) (z := 5) dL_law_356 dL_law_357 dL_law_359 dL_law_360 dL_law_361 rfl rfl (by decide) (by omega) hL rfl ?_
  refine G_callK (i := 0) (ci := 3) (d1 := 60) (rest := []) [(.int (xs (i0 + 1))), (.int (xs (i0 + 2))), (.int (xs (i0 + 3))), (.int (xs (i0 + 4))), (.int (xs (i0 + 5)))] dL_law_362 ml_L_37 (by decide) hW rfl rfl rfl rfl (Nat.le_of_ble_eq_true rfl) (c_X3_wishes (by decide) I.1 I.2.2.1 ) (by decide) (by decide) (show cells ≤ 601024 by omega) (show slots ≤ 7293034 by omega) rfl ?_
  rintro r N1 K1 ⟨rfl, R1, F1⟩
  refine G_st (st' := [.int _]) rfl rfl ?_
  refine G_aload_n dL_law_365 rfl rfl ?_
  refine L_arg (i0 := i0) (c := 1) (z := 1) dL_law_366 dL_law_367 dL_law_369 dL_law_370 dL_law_371 rfl rfl (by decide) (by omega) hL rfl ?_
  refine L_arg (i0 := i0) (c := 2) (z := 2) dL_law_372 dL_law_373 dL_law_375 dL_law_376 dL_law_377 rfl rfl (by decide) (by omega) hL rfl ?_
  refine L_arg (i0 := i0) (c := 3) (z := 3) dL_law_378 dL_law_379 dL_law_381 dL_law_382 dL_law_383 rfl rfl (by decide) (by omega) hL rfl ?_
  refine L_arg (i0 := i0) (c := 4) (z := 4) dL_law_384 dL_law_385 dL_law_387 dL_law_388 dL_law_389 rfl rfl (by decide) (by omega) hL rfl ?_
  refine L_arg (i0 := i0) (c := 5) (z := 5) dL_law_390 dL_law_391 dL_law_393 dL_law_394 dL_law_395 rfl rfl (by decide) (by omega) hL rfl ?_
  refine G_callK (i := 40) (ci := 4) (d1 := 60) (rest := [.int _]) [(.int (xs (i0 + 1))), (.int (xs (i0 + 2))), (.int (xs (i0 + 3))), (.int (xs (i0 + 4))), (.int (xs (i0 + 5)))] dL_law_396 ml_L_41 (by decide) hW rfl rfl rfl rfl (Nat.le_of_ble_eq_true rfl) (c_X4_wishes (by decide) (I.2.1.fx F1) I.2.2.1 ) (by decide) (by decide) (show cells ≤ 601024 by omega) (show slots ≤ 7293034 by omega) rfl ?_
  rintro r N2 K2 ⟨rfl, Y2, F2, rfl⟩
  refine G_st (st' := [.int _, .int _]) rfl rfl ?_
  refine G_icmp_eq (tgt := 1047) dL_law_399 (by decide) rfl (fun _ => ?_) (fun c => absurd rfl c)
  exact G_widen (by omega) (by omega) (nx _ _ _ ⟨R1.fy F2, Y2, wf_wishes I.2.2.1 (xs (i0 + 1)) (xs (i0 + 2)) (xs (i0 + 3)) (xs (i0 + 4)) (xs (i0 + 5)), ch_wishes S (xs (i0 + 1)) (xs (i0 + 2)) (xs (i0 + 3)) (xs (i0 + 4)) (xs (i0 + 5))⟩)
set_option maxRecDepth 100000 in
theorem lw_c4 (hW : WOK L Sh q qi) (I : Inv S N K) (hi : i0 + 5 < Ls) (hL : Ls ≤ 3072) (hc : cells ≤ 700) (hs : slots ≤ 30000) (nx : NX l D cy b Ls xs sa cells slots i0 L Sh q qi) : EL l D cy b Ls xs sa cells slots 404 (lv0 b q i0) [] L Sh (km qi N) (kj qi K) := by
  refine G_aload_n dL_law_404 rfl rfl ?_
  refine L_arg (i0 := i0) (c := 1) (z := 1) dL_law_405 dL_law_406 dL_law_408 dL_law_409 dL_law_410 rfl rfl (by decide) (by omega) hL rfl ?_
  refine L_arg (i0 := i0) (c := 2) (z := 2) dL_law_411 dL_law_412 dL_law_414 dL_law_415 dL_law_416 rfl rfl (by decide) (by omega) hL rfl ?_
  refine L_arg (i0 := i0) (c := 3) (z := 3) dL_law_417 dL_law_418 dL_law_420 dL_law_421 dL_law_422 rfl rfl (by decide) (by omega) hL rfl ?_
  refine L_bool dL_law_423 (by decide) dL_law_426 dL_law_427 (by decide) dL_law_430 rfl ?_
  refine G_callK (i := 0) (ci := 3) (d1 := 60) (rest := []) [(.int (xs (i0 + 1))), (.int (xs (i0 + 2))), (.int (bI (decide (¬ xs (i0 + 3) = 0))))] dL_law_431 ml_L_42 (by decide) hW rfl rfl rfl rfl (Nat.le_of_ble_eq_true rfl) (c_X3_bar (by decide) I.1 I.2.2.1 ) (by decide) (by decide) (show cells ≤ 601024 by omega) (show slots ≤ 7293034 by omega) rfl ?_
  rintro r N1 K1 ⟨rfl, R1, F1⟩
  refine G_st (st' := [.int _]) rfl rfl ?_
  refine G_aload_n dL_law_434 rfl rfl ?_
  refine L_arg (i0 := i0) (c := 1) (z := 1) dL_law_435 dL_law_436 dL_law_438 dL_law_439 dL_law_440 rfl rfl (by decide) (by omega) hL rfl ?_
  refine L_arg (i0 := i0) (c := 2) (z := 2) dL_law_441 dL_law_442 dL_law_444 dL_law_445 dL_law_446 rfl rfl (by decide) (by omega) hL rfl ?_
  refine L_arg (i0 := i0) (c := 3) (z := 3) dL_law_447 dL_law_448 dL_law_450 dL_law_451 dL_law_452 rfl rfl (by decide) (by omega) hL rfl ?_
  refine L_bool dL_law_453 (by decide) dL_law_456 dL_law_457 (by decide) dL_law_460 rfl ?_
  refine G_callK (i := 40) (ci := 4) (d1 := 60) (rest := [.int _]) [(.int (xs (i0 + 1))), (.int (xs (i0 + 2))), (.int (bI (decide (¬ xs (i0 + 3) = 0))))] dL_law_461 ml_L_46 (by decide) hW rfl rfl rfl rfl (Nat.le_of_ble_eq_true rfl) (c_X4_bar (by decide) (I.2.1.fx F1) I.2.2.1 ) (by decide) (by decide) (show cells ≤ 601024 by omega) (show slots ≤ 7293034 by omega) rfl ?_
  rintro r N2 K2 ⟨rfl, Y2, F2, rfl⟩
  refine G_st (st' := [.int _, .int _]) rfl rfl ?_
  refine G_icmp_eq (tgt := 1047) dL_law_464 (by decide) rfl (fun _ => ?_) (fun c => absurd rfl c)
  exact G_widen (by omega) (by omega) (nx _ _ _ ⟨R1.fy F2, Y2, wf_bar I.2.2.1 (xs (i0 + 1)) (xs (i0 + 2)) (decide (¬ xs (i0 + 3) = 0)), ch_bar S (xs (i0 + 1)) (xs (i0 + 2)) (decide (¬ xs (i0 + 3) = 0))⟩)
set_option maxRecDepth 100000 in
theorem lw_c5 (hW : WOK L Sh q qi) (I : Inv S N K) (hi : i0 + 5 < Ls) (hL : Ls ≤ 3072) (hc : cells ≤ 700) (hs : slots ≤ 30000) (nx : NX l D cy b Ls xs sa cells slots i0 L Sh q qi) : EL l D cy b Ls xs sa cells slots 469 (lv0 b q i0) [] L Sh (km qi N) (kj qi K) := by
  refine G_aload_n dL_law_469 rfl rfl ?_
  refine L_arg (i0 := i0) (c := 1) (z := 1) dL_law_470 dL_law_471 dL_law_473 dL_law_474 dL_law_475 rfl rfl (by decide) (by omega) hL rfl ?_
  refine L_arg (i0 := i0) (c := 2) (z := 2) dL_law_476 dL_law_477 dL_law_479 dL_law_480 dL_law_481 rfl rfl (by decide) (by omega) hL rfl ?_
  refine L_bool dL_law_482 (by decide) dL_law_485 dL_law_486 (by decide) dL_law_489 rfl ?_
  refine G_callK (i := 0) (ci := 3) (d1 := 60) (rest := []) [(.int (xs (i0 + 1))), (.int (bI (decide (¬ xs (i0 + 2) = 0))))] dL_law_490 ml_L_47 (by decide) hW rfl rfl rfl rfl (Nat.le_of_ble_eq_true rfl) (c_X3_in (by decide) I.1 I.2.2.1 ) (by decide) (by decide) (show cells ≤ 601024 by omega) (show slots ≤ 7293034 by omega) rfl ?_
  rintro r N1 K1 ⟨rfl, R1, F1⟩
  refine G_st (st' := [.int _]) rfl rfl ?_
  refine G_aload_n dL_law_493 rfl rfl ?_
  refine L_arg (i0 := i0) (c := 1) (z := 1) dL_law_494 dL_law_495 dL_law_497 dL_law_498 dL_law_499 rfl rfl (by decide) (by omega) hL rfl ?_
  refine L_arg (i0 := i0) (c := 2) (z := 2) dL_law_500 dL_law_501 dL_law_503 dL_law_504 dL_law_505 rfl rfl (by decide) (by omega) hL rfl ?_
  refine L_bool dL_law_506 (by decide) dL_law_509 dL_law_510 (by decide) dL_law_513 rfl ?_
  refine G_callK (i := 40) (ci := 4) (d1 := 60) (rest := [.int _]) [(.int (xs (i0 + 1))), (.int (bI (decide (¬ xs (i0 + 2) = 0))))] dL_law_514 ml_L_51 (by decide) hW rfl rfl rfl rfl (Nat.le_of_ble_eq_true rfl) (c_X4_in (by decide) (I.2.1.fx F1) I.2.2.1 ) (by decide) (by decide) (show cells ≤ 601024 by omega) (show slots ≤ 7293034 by omega) rfl ?_
  rintro r N2 K2 ⟨rfl, Y2, F2, rfl⟩
  refine G_st (st' := [.int _, .int _]) rfl rfl ?_
  refine G_icmp_eq (tgt := 1047) dL_law_517 (by decide) rfl (fun _ => ?_) (fun c => absurd rfl c)
  exact G_widen (by omega) (by omega) (nx _ _ _ ⟨R1.fy F2, Y2, wf_in I.2.2.1 (xs (i0 + 1)) (decide (¬ xs (i0 + 2) = 0)), ch_in S (xs (i0 + 1)) (decide (¬ xs (i0 + 2) = 0))⟩)
set_option maxRecDepth 100000 in
theorem lw_c6 (hW : WOK L Sh q qi) (I : Inv S N K) (hi : i0 + 5 < Ls) (hL : Ls ≤ 3072) (hc : cells ≤ 700) (hs : slots ≤ 30000) (nx : NX l D cy b Ls xs sa cells slots i0 L Sh q qi) : EL l D cy b Ls xs sa cells slots 522 (lv0 b q i0) [] L Sh (km qi N) (kj qi K) := by
  refine G_aload_n dL_law_522 rfl rfl ?_
  refine L_arg (i0 := i0) (c := 1) (z := 1) dL_law_523 dL_law_524 dL_law_526 dL_law_527 dL_law_528 rfl rfl (by decide) (by omega) hL rfl ?_
  refine L_arg (i0 := i0) (c := 2) (z := 2) dL_law_529 dL_law_530 dL_law_532 dL_law_533 dL_law_534 rfl rfl (by decide) (by omega) hL rfl ?_
  refine G_callK (i := 0) (ci := 3) (d1 := 60) (rest := []) [(.int (xs (i0 + 1))), (.int (xs (i0 + 2)))] dL_law_535 ml_L_52 (by decide) hW rfl rfl rfl rfl (Nat.le_of_ble_eq_true rfl) (c_X3_set I.1 I.2.2.1 ) (by decide) (by decide) (show cells ≤ 601024 by omega) (show slots ≤ 7293034 by omega) rfl ?_
  rintro r N1 K1 ⟨rfl, R1, F1⟩
  refine G_st (st' := [.int _]) rfl rfl ?_
  refine G_aload_n dL_law_538 rfl rfl ?_
  refine L_arg (i0 := i0) (c := 1) (z := 1) dL_law_539 dL_law_540 dL_law_542 dL_law_543 dL_law_544 rfl rfl (by decide) (by omega) hL rfl ?_
  refine L_arg (i0 := i0) (c := 2) (z := 2) dL_law_545 dL_law_546 dL_law_548 dL_law_549 dL_law_550 rfl rfl (by decide) (by omega) hL rfl ?_
  refine G_callK (i := 40) (ci := 4) (d1 := 60) (rest := [.int _]) [(.int (xs (i0 + 1))), (.int (xs (i0 + 2)))] dL_law_551 ml_L_55 (by decide) hW rfl rfl rfl rfl (Nat.le_of_ble_eq_true rfl) (c_X4_set (by decide) (I.2.1.fx F1) I.2.2.1 ) (by decide) (by decide) (show cells ≤ 601024 by omega) (show slots ≤ 7293034 by omega) rfl ?_
  rintro r N2 K2 ⟨rfl, Y2, F2, rfl⟩
  refine G_st (st' := [.int _, .int _]) rfl rfl ?_
  refine G_icmp_eq (tgt := 1047) dL_law_554 (by decide) rfl (fun _ => ?_) (fun c => absurd rfl c)
  exact G_widen (by omega) (by omega) (nx _ _ _ ⟨R1.fy F2, Y2, wf_set I.2.2.1 (xs (i0 + 1)) (xs (i0 + 2)), ch_set S (xs (i0 + 1)) (xs (i0 + 2))⟩)
set_option maxRecDepth 100000 in
theorem lw_c7 (hW : WOK L Sh q qi) (I : Inv S N K) (hi : i0 + 5 < Ls) (hL : Ls ≤ 3072) (hc : cells ≤ 700) (hs : slots ≤ 30000) (nx : NX l D cy b Ls xs sa cells slots i0 L Sh q qi) : EL l D cy b Ls xs sa cells slots 559 (lv0 b q i0) [] L Sh (km qi N) (kj qi K) := by
  refine G_aload_n dL_law_559 rfl rfl ?_
  refine L_arg (i0 := i0) (c := 1) (z := 1) dL_law_560 dL_law_561 dL_law_563 dL_law_564 dL_law_565 rfl rfl (by decide) (by omega) hL rfl ?_
  refine G_callK (i := 0) (ci := 3) (d1 := 60) (rest := []) [(.int (xs (i0 + 1)))] dL_law_566 ml_L_56 (by decide) hW rfl rfl rfl rfl (Nat.le_of_ble_eq_true rfl) (c_X3_count (by decide) I.1 I.2.2.1 ) (by decide) (by decide) (show cells ≤ 601024 by omega) (show slots ≤ 7293034 by omega) rfl ?_
  rintro r N1 K1 ⟨rfl, rfl, rfl⟩
  refine G_st (st' := [.int _]) rfl rfl ?_
  refine G_aload_n dL_law_569 rfl rfl ?_
  refine L_arg (i0 := i0) (c := 1) (z := 1) dL_law_570 dL_law_571 dL_law_573 dL_law_574 dL_law_575 rfl rfl (by decide) (by omega) hL rfl ?_
  refine G_callK (i := 40) (ci := 4) (d1 := 60) (rest := [.int _]) [(.int (xs (i0 + 1)))] dL_law_576 ml_L_59 (by decide) hW rfl rfl rfl rfl (Nat.le_of_ble_eq_true rfl) (c_X4_count (by decide) I.2.1 I.2.2.1 ) (by decide) (by decide) (show cells ≤ 601024 by omega) (show slots ≤ 7293034 by omega) rfl ?_
  rintro r N2 K2 ⟨rfl, Y2, F2, rfl⟩
  refine G_st (st' := [.int _, .int _]) rfl rfl ?_
  refine G_icmp_eq (tgt := 1047) dL_law_579 (by decide) rfl (fun _ => ?_) (fun c => absurd rfl c)
  exact G_widen (by omega) (by omega) (nx _ _ _ ⟨I.1.fy F2, Y2, I.2.2.1, I.2.2.2⟩)
set_option maxRecDepth 100000 in
theorem lw_c8 (htr : l.stackTraces = false) (hout : fr_at L Sh (q 99) outS) (hW : WOK L Sh q qi) (I : Inv S N K) (hi : i0 + 5 < Ls) (hL : Ls ≤ 3072) (hc : cells ≤ 700) (hs : slots ≤ 30000) (nx : NX l D cy b Ls xs sa cells slots i0 L Sh q qi) : EL l D cy b Ls xs sa cells slots 584 (lv0 b q i0) [] L Sh (km qi N) (kj qi K) := by
  refine G_aload_n dL_law_584 rfl rfl ?_
  refine L_arg (i0 := i0) (c := 1) (z := 1) dL_law_585 dL_law_586 dL_law_588 dL_law_589 dL_law_590 rfl rfl (by decide) (by omega) hL rfl ?_
  refine L_arg (i0 := i0) (c := 2) (z := 2) dL_law_591 dL_law_592 dL_law_594 dL_law_595 dL_law_596 rfl rfl (by decide) (by omega) hL rfl ?_
  refine G_aload_n dL_law_597 rfl rfl ?_
  cases ho : (o_of S (xs (i0 + 1)) (xs (i0 + 2))).2 with
  | false =>
    refine L_help (na := 4) (rest := []) [.ref (q 0), (.int (xs (i0 + 1))), (.int (xs (i0 + 2))), .ref (q 99)] dL_law_598 hw_of (by decide +kernel) (by decide) rfl rfl (Nat.le_of_ble_eq_true rfl) (h_of_ret I.1 I.2.2.1 ho hW hout) (by omega) (by omega) rfl ?_
    rintro r L1 Sh1 M1 J1 ⟨rfl, rfl, rfl, rfl, rfl⟩
    refine G_st (st' := [.int (nI 0)]) rfl rfl ?_
    refine G_istore (lv' := [(0, .ref b), (1, .ref (q 0)), (2, .ref (q 40)), (3, .ref (q 99)), (4, .int (nI i0)), (5, .int (nI 0))]) dL_law_601 (by decide) rfl rfl ?_
    refine G_aload_n dL_law_603 rfl rfl ?_
    refine L_arg (i0 := i0) (c := 1) (z := 1) dL_law_604 dL_law_605 dL_law_607 dL_law_608 dL_law_609 rfl rfl (by decide) (by omega) hL rfl ?_
    refine L_arg (i0 := i0) (c := 2) (z := 2) dL_law_610 dL_law_611 dL_law_613 dL_law_614 dL_law_615 rfl rfl (by decide) (by omega) hL rfl ?_
    refine G_callK (i := 40) (ci := 4) (d1 := 60) (rest := []) [(.int (xs (i0 + 1))), (.int (xs (i0 + 2)))] dL_law_616 ml_L_65 (by decide) hW rfl rfl rfl rfl (Nat.le_of_ble_eq_true rfl) (c_X4_of (by decide) I.2.1 I.2.2.1) (by decide) (by decide) (show cells + 1 ≤ 601024 by omega) (show slots + 6 ≤ 7293034 by omega) rfl ?_
    rintro r N2 K2 ⟨rfl, hth, Y2, F2, rfl⟩
    refine G_st (st' := [.int (o_of S (xs (i0 + 1)) (xs (i0 + 2))).1]) rfl rfl ?_
    refine G_istore (lv' := [(0, .ref b), (1, .ref (q 0)), (2, .ref (q 40)), (3, .ref (q 99)), (4, .int (nI i0)), (5, .int (nI 0)), (6, .int (o_of S (xs (i0 + 1)) (xs (i0 + 2))).1)]) dL_law_619 (by decide) rfl rfl ?_
    refine G_aload_n dL_law_621 rfl rfl ?_
    refine G_callK (i := 40) (ci := 4) (d1 := 60) (rest := []) [] dL_law_622 ml_L_66 (by decide) hW rfl rfl rfl rfl (Nat.le_of_ble_eq_true rfl) (c_X4_thrown hth) (by decide) (by decide) (show cells + 1 ≤ 601024 by omega) (show slots + 6 ≤ 7293034 by omega) rfl ?_
    rintro r N3 K3 ⟨rfl, rfl, rfl⟩
    refine G_st (st' := [.int (bI (o_of S (xs (i0 + 1)) (xs (i0 + 2))).2)]) rfl rfl ?_
    refine G_iload dL_law_625 rfl rfl ?_
    refine G_icmp_eq (tgt := 632) dL_law_627 (by decide) rfl (fun _ => ?_) (fun c => absurd (by rw [ho]; rfl) c)
    refine G_iload dL_law_632 rfl rfl ?_
    refine G_if_ne (tgt := 649) dL_law_634 (by decide) rfl (fun c => absurd rfl c) (fun _ => ?_)
    refine G_aload_n dL_law_637 rfl rfl ?_
    refine G_iconst (v := nI 0) dL_law_638 (by decide) rfl ?_
    refine G_lald (v := (o_of S (xs (i0 + 1)) (xs (i0 + 2))).1.toInt64) dL_law_639 hout (by decide) (by decide) ?_ rfl ?_
    · show sJ K 99 0 (o_of S (xs (i0 + 1)) (xs (i0 + 2))).1.toInt64 (qi (q 99)) 0 = _
      rw [hW.1 99 (by decide), sJ_at, if_pos ⟨rfl, rfl⟩]
    refine G_iload dL_law_640 rfl rfl ?_
    refine G_i2l dL_law_642 rfl ?_
    refine G_lcmp dL_law_643 rfl ?_
    refine G_if_eq (tgt := 649) dL_law_644 (by decide) rfl (fun _ => ?_) (fun c => absurd ((lg_cmp_eq _ _).mpr rfl) c)
    refine G_goto (tgt := 1047) dL_law_649 (by decide) ?_
    refine L_sub (lv' := lv0 b q i0) (fun p hp => List.mem_append_left _ hp) ?_
    exact nx S _ _ ⟨(I.1.k99 0 _).fy F2, Y2, I.2.2.1, I.2.2.2⟩
  | true =>
    refine L_help (na := 4) (rest := []) [.ref (q 0), (.int (xs (i0 + 1))), (.int (xs (i0 + 2))), .ref (q 99)] dL_law_598 hw_of (by decide +kernel) (by decide) rfl rfl (Nat.le_of_ble_eq_true rfl) (h_of_thr htr I.1 I.2.2.1 ho hW) (by omega) (by omega) rfl ?_
    rintro r L1 Sh1 M1 J1 ⟨rfl, rfl, rfl, rfl, rfl⟩
    refine G_st (st' := [.int (nI 1)]) rfl rfl ?_
    refine G_istore (lv' := [(0, .ref b), (1, .ref (q 0)), (2, .ref (q 40)), (3, .ref (q 99)), (4, .int (nI i0)), (5, .int (nI 1))]) dL_law_601 (by decide) rfl rfl ?_
    refine G_aload_n dL_law_603 rfl rfl ?_
    refine L_arg (i0 := i0) (c := 1) (z := 1) dL_law_604 dL_law_605 dL_law_607 dL_law_608 dL_law_609 rfl rfl (by decide) (by omega) hL rfl ?_
    refine L_arg (i0 := i0) (c := 2) (z := 2) dL_law_610 dL_law_611 dL_law_613 dL_law_614 dL_law_615 rfl rfl (by decide) (by omega) hL rfl ?_
    refine G_callK (i := 40) (ci := 4) (d1 := 60) (rest := []) [(.int (xs (i0 + 1))), (.int (xs (i0 + 2)))] dL_law_616 ml_L_65 (by decide) hW rfl rfl rfl rfl (Nat.le_of_ble_eq_true rfl) (c_X4_of (by decide) I.2.1 I.2.2.1) (by decide) (by decide) (show cells + 1 ≤ 601024 by omega) (show slots + 6 ≤ 7293034 by omega) rfl ?_
    rintro r N2 K2 ⟨rfl, hth, Y2, F2, rfl⟩
    refine G_st (st' := [.int (o_of S (xs (i0 + 1)) (xs (i0 + 2))).1]) rfl rfl ?_
    refine G_istore (lv' := [(0, .ref b), (1, .ref (q 0)), (2, .ref (q 40)), (3, .ref (q 99)), (4, .int (nI i0)), (5, .int (nI 1)), (6, .int (o_of S (xs (i0 + 1)) (xs (i0 + 2))).1)]) dL_law_619 (by decide) rfl rfl ?_
    refine G_aload_n dL_law_621 rfl rfl ?_
    refine G_callK (i := 40) (ci := 4) (d1 := 60) (rest := []) [] dL_law_622 ml_L_66 (by decide) hW rfl rfl rfl rfl (Nat.le_of_ble_eq_true rfl) (c_X4_thrown hth) (by decide) (by decide) (show cells + 1 ≤ 601024 by omega) (show slots + 6 ≤ 7293034 by omega) rfl ?_
    rintro r N3 K3 ⟨rfl, rfl, rfl⟩
    refine G_st (st' := [.int (bI (o_of S (xs (i0 + 1)) (xs (i0 + 2))).2)]) rfl rfl ?_
    refine G_iload dL_law_625 rfl rfl ?_
    refine G_icmp_eq (tgt := 632) dL_law_627 (by decide) rfl (fun _ => ?_) (fun c => absurd (by rw [ho]; rfl) c)
    refine G_iload dL_law_632 rfl rfl ?_
    refine G_if_ne (tgt := 649) dL_law_634 (by decide) rfl (fun _ => ?_) (fun c => absurd c (by decide))
    refine G_goto (tgt := 1047) dL_law_649 (by decide) ?_
    refine L_sub (lv' := lv0 b q i0) (fun p hp => List.mem_append_left _ hp) ?_
    exact nx S _ _ ⟨I.1.fy F2, Y2, I.2.2.1, I.2.2.2⟩
set_option maxRecDepth 100000 in
theorem lw_c9 (hW : WOK L Sh q qi) (I : Inv S N K) (hi : i0 + 5 < Ls) (hL : Ls ≤ 3072) (hc : cells ≤ 700) (hs : slots ≤ 30000) (nx : NX l D cy b Ls xs sa cells slots i0 L Sh q qi) : EL l D cy b Ls xs sa cells slots 652 (lv0 b q i0) [] L Sh (km qi N) (kj qi K) := by
  refine G_aload_n dL_law_652 rfl rfl ?_
  refine L_arg (i0 := i0) (c := 1) (z := 1) dL_law_653 dL_law_654 dL_law_656 dL_law_657 dL_law_658 rfl rfl (by decide) (by omega) hL rfl ?_
  refine L_arg (i0 := i0) (c := 2) (z := 2) dL_law_659 dL_law_660 dL_law_662 dL_law_663 dL_law_664 rfl rfl (by decide) (by omega) hL rfl ?_
  refine G_callK (i := 0) (ci := 3) (d1 := 60) (rest := []) [(.int (xs (i0 + 1))), (.int (xs (i0 + 2)))] dL_law_665 ml_L_70 (by decide) hW rfl rfl rfl rfl (Nat.le_of_ble_eq_true rfl) (c_X3_rank (by decide) I.1 I.2.2.1 ) (by decide) (by decide) (show cells ≤ 601024 by omega) (show slots ≤ 7293034 by omega) rfl ?_
  rintro r N1 K1 ⟨rfl, rfl, rfl⟩
  refine G_st (st' := [.int _]) rfl rfl ?_
  refine G_aload_n dL_law_668 rfl rfl ?_
  refine L_arg (i0 := i0) (c := 1) (z := 1) dL_law_669 dL_law_670 dL_law_672 dL_law_673 dL_law_674 rfl rfl (by decide) (by omega) hL rfl ?_
  refine L_arg (i0 := i0) (c := 2) (z := 2) dL_law_675 dL_law_676 dL_law_678 dL_law_679 dL_law_680 rfl rfl (by decide) (by omega) hL rfl ?_
  refine G_callK (i := 40) (ci := 4) (d1 := 60) (rest := [.int _]) [(.int (xs (i0 + 1))), (.int (xs (i0 + 2)))] dL_law_681 ml_L_73 (by decide) hW rfl rfl rfl rfl (Nat.le_of_ble_eq_true rfl) (c_X4_rank (by decide) I.2.1 I.2.2.1 ) (by decide) (by decide) (show cells ≤ 601024 by omega) (show slots ≤ 7293034 by omega) rfl ?_
  rintro r N2 K2 ⟨rfl, Y2, F2, rfl⟩
  refine G_st (st' := [.int _, .int _]) rfl rfl ?_
  refine G_icmp_eq (tgt := 1047) dL_law_684 (by decide) rfl (fun _ => ?_) (fun c => absurd rfl c)
  exact G_widen (by omega) (by omega) (nx _ _ _ ⟨I.1.fy F2, Y2, I.2.2.1, I.2.2.2⟩)
set_option maxRecDepth 100000 in
theorem lw_c10 (hW : WOK L Sh q qi) (I : Inv S N K) (hi : i0 + 5 < Ls) (hL : Ls ≤ 3072) (hc : cells ≤ 700) (hs : slots ≤ 30000) (nx : NX l D cy b Ls xs sa cells slots i0 L Sh q qi) : EL l D cy b Ls xs sa cells slots 689 (lv0 b q i0) [] L Sh (km qi N) (kj qi K) := by
  refine G_aload_n dL_law_689 rfl rfl ?_
  refine L_arg (i0 := i0) (c := 1) (z := 1) dL_law_690 dL_law_691 dL_law_693 dL_law_694 dL_law_695 rfl rfl (by decide) (by omega) hL rfl ?_
  refine L_arg (i0 := i0) (c := 2) (z := 2) dL_law_696 dL_law_697 dL_law_699 dL_law_700 dL_law_701 rfl rfl (by decide) (by omega) hL rfl ?_
  refine G_callK (i := 0) (ci := 3) (d1 := 60) (rest := []) [(.int (xs (i0 + 1))), (.int (xs (i0 + 2)))] dL_law_702 ml_L_74 (by decide) hW rfl rfl rfl rfl (Nat.le_of_ble_eq_true rfl) (c_X3_can (by decide) I.1 I.2.2.1 ) (by decide) (by decide) (show cells ≤ 601024 by omega) (show slots ≤ 7293034 by omega) rfl ?_
  rintro r N1 K1 ⟨rfl, rfl, rfl⟩
  refine G_st (st' := [.int _]) rfl rfl ?_
  refine G_aload_n dL_law_705 rfl rfl ?_
  refine L_arg (i0 := i0) (c := 1) (z := 1) dL_law_706 dL_law_707 dL_law_709 dL_law_710 dL_law_711 rfl rfl (by decide) (by omega) hL rfl ?_
  refine L_arg (i0 := i0) (c := 2) (z := 2) dL_law_712 dL_law_713 dL_law_715 dL_law_716 dL_law_717 rfl rfl (by decide) (by omega) hL rfl ?_
  refine G_callK (i := 40) (ci := 4) (d1 := 60) (rest := [.int _]) [(.int (xs (i0 + 1))), (.int (xs (i0 + 2)))] dL_law_718 ml_L_77 (by decide) hW rfl rfl rfl rfl (Nat.le_of_ble_eq_true rfl) (c_X4_can (by decide) I.2.1 I.2.2.1 ) (by decide) (by decide) (show cells ≤ 601024 by omega) (show slots ≤ 7293034 by omega) rfl ?_
  rintro r N2 K2 ⟨rfl, Y2, F2, rfl⟩
  refine G_st (st' := [.int _, .int _]) rfl rfl ?_
  refine G_icmp_eq (tgt := 1047) dL_law_721 (by decide) rfl (fun _ => ?_) (fun c => absurd rfl c)
  exact G_widen (by omega) (by omega) (nx _ _ _ ⟨I.1.fy F2, Y2, I.2.2.1, I.2.2.2⟩)
set_option maxRecDepth 100000 in
theorem lw_c11 (hW : WOK L Sh q qi) (I : Inv S N K) (hi : i0 + 5 < Ls) (hL : Ls ≤ 3072) (hc : cells ≤ 700) (hs : slots ≤ 30000) (nx : NX l D cy b Ls xs sa cells slots i0 L Sh q qi) : EL l D cy b Ls xs sa cells slots 726 (lv0 b q i0) [] L Sh (km qi N) (kj qi K) := by
  refine G_aload_n dL_law_726 rfl rfl ?_
  refine L_arg (i0 := i0) (c := 1) (z := 1) dL_law_727 dL_law_728 dL_law_730 dL_law_731 dL_law_732 rfl rfl (by decide) (by omega) hL rfl ?_
  refine L_arg (i0 := i0) (c := 2) (z := 2) dL_law_733 dL_law_734 dL_law_736 dL_law_737 dL_law_738 rfl rfl (by decide) (by omega) hL rfl ?_
  refine G_callK (i := 0) (ci := 3) (d1 := 60) (rest := []) [(.int (xs (i0 + 1))), (.int (xs (i0 + 2)))] dL_law_739 ml_L_78 (by decide) hW rfl rfl rfl rfl (Nat.le_of_ble_eq_true rfl) (c_X3_week (by decide) I.1 I.2.2.1 ) (by decide) (by decide) (show cells ≤ 601024 by omega) (show slots ≤ 7293034 by omega) rfl ?_
  rintro r N1 K1 ⟨rfl, rfl, rfl⟩
  refine G_st (st' := [.int _]) rfl rfl ?_
  refine G_aload_n dL_law_742 rfl rfl ?_
  refine L_arg (i0 := i0) (c := 1) (z := 1) dL_law_743 dL_law_744 dL_law_746 dL_law_747 dL_law_748 rfl rfl (by decide) (by omega) hL rfl ?_
  refine L_arg (i0 := i0) (c := 2) (z := 2) dL_law_749 dL_law_750 dL_law_752 dL_law_753 dL_law_754 rfl rfl (by decide) (by omega) hL rfl ?_
  refine G_callK (i := 40) (ci := 4) (d1 := 60) (rest := [.int _]) [(.int (xs (i0 + 1))), (.int (xs (i0 + 2)))] dL_law_755 ml_L_81 (by decide) hW rfl rfl rfl rfl (Nat.le_of_ble_eq_true rfl) (c_X4_week (by decide) I.2.1 I.2.2.1 ) (by decide) (by decide) (show cells ≤ 601024 by omega) (show slots ≤ 7293034 by omega) rfl ?_
  rintro r N2 K2 ⟨rfl, Y2, F2, rfl⟩
  refine G_st (st' := [.int _, .int _]) rfl rfl ?_
  refine G_icmp_eq (tgt := 1047) dL_law_758 (by decide) rfl (fun _ => ?_) (fun c => absurd rfl c)
  exact G_widen (by omega) (by omega) (nx _ _ _ ⟨I.1.fy F2, Y2, I.2.2.1, I.2.2.2⟩)
set_option maxRecDepth 100000 in
theorem lw_c12 (hW : WOK L Sh q qi) (I : Inv S N K) (hi : i0 + 5 < Ls) (hL : Ls ≤ 3072) (hc : cells ≤ 700) (hs : slots ≤ 30000) (nx : NX l D cy b Ls xs sa cells slots i0 L Sh q qi) : EL l D cy b Ls xs sa cells slots 763 (lv0 b q i0) [] L Sh (km qi N) (kj qi K) := by
  refine G_aload_n dL_law_763 rfl rfl ?_
  refine L_arg (i0 := i0) (c := 1) (z := 1) dL_law_764 dL_law_765 dL_law_767 dL_law_768 dL_law_769 rfl rfl (by decide) (by omega) hL rfl ?_
  refine L_arg (i0 := i0) (c := 2) (z := 2) dL_law_770 dL_law_771 dL_law_773 dL_law_774 dL_law_775 rfl rfl (by decide) (by omega) hL rfl ?_
  refine G_callK (i := 0) (ci := 3) (d1 := 60) (rest := []) [(.int (xs (i0 + 1))), (.int (xs (i0 + 2)))] dL_law_776 ml_L_82 (by decide) hW rfl rfl rfl rfl (Nat.le_of_ble_eq_true rfl) (c_X3_put (by decide) I.1 I.2.2.1 ) (by decide) (by decide) (show cells ≤ 601024 by omega) (show slots ≤ 7293034 by omega) rfl ?_
  rintro r N1 K1 ⟨rfl, R1, F1⟩
  refine G_st (st' := [.int _]) rfl rfl ?_
  refine G_aload_n dL_law_779 rfl rfl ?_
  refine L_arg (i0 := i0) (c := 1) (z := 1) dL_law_780 dL_law_781 dL_law_783 dL_law_784 dL_law_785 rfl rfl (by decide) (by omega) hL rfl ?_
  refine L_arg (i0 := i0) (c := 2) (z := 2) dL_law_786 dL_law_787 dL_law_789 dL_law_790 dL_law_791 rfl rfl (by decide) (by omega) hL rfl ?_
  refine G_callK (i := 40) (ci := 4) (d1 := 60) (rest := [.int _]) [(.int (xs (i0 + 1))), (.int (xs (i0 + 2)))] dL_law_792 ml_L_86 (by decide) hW rfl rfl rfl rfl (Nat.le_of_ble_eq_true rfl) (c_X4_put (by decide) (I.2.1.fx F1) I.2.2.1 ) (by decide) (by decide) (show cells ≤ 601024 by omega) (show slots ≤ 7293034 by omega) rfl ?_
  rintro r N2 K2 ⟨rfl, Y2, F2, rfl⟩
  refine G_st (st' := [.int _, .int _]) rfl rfl ?_
  refine G_icmp_eq (tgt := 1047) dL_law_795 (by decide) rfl (fun _ => ?_) (fun c => absurd rfl c)
  exact G_widen (by omega) (by omega) (nx _ _ _ ⟨R1.fy F2, Y2, wf_put I.2.2.1 (xs (i0 + 1)) (xs (i0 + 2)), ch_put S (xs (i0 + 1)) (xs (i0 + 2))⟩)
set_option maxRecDepth 100000 in
theorem lw_c13 (hW : WOK L Sh q qi) (I : Inv S N K) (hi : i0 + 5 < Ls) (hL : Ls ≤ 3072) (hc : cells ≤ 700) (hs : slots ≤ 30000) (nx : NX l D cy b Ls xs sa cells slots i0 L Sh q qi) : EL l D cy b Ls xs sa cells slots 800 (lv0 b q i0) [] L Sh (km qi N) (kj qi K) := by
  refine G_aload_n dL_law_800 rfl rfl ?_
  refine G_callK (i := 0) (ci := 3) (d1 := 60) (rest := []) [] dL_law_801 ml_L_87 (by decide) hW rfl rfl rfl rfl (Nat.le_of_ble_eq_true rfl) (c_X3_wrong (by decide) I.1 I.2.2.1 ) (by decide) (by decide) (show cells ≤ 601024 by omega) (show slots ≤ 7293034 by omega) rfl ?_
  rintro r N1 K1 ⟨rfl, rfl, rfl⟩
  refine G_st (st' := [.int _]) rfl rfl ?_
  refine G_aload_n dL_law_804 rfl rfl ?_
  refine G_callK (i := 40) (ci := 4) (d1 := 60) (rest := [.int _]) [] dL_law_805 ml_L_90 (by decide) hW rfl rfl rfl rfl (Nat.le_of_ble_eq_true rfl) (c_X4_wrong (by decide) I.2.1 I.2.2.1 ) (by decide) (by decide) (show cells ≤ 601024 by omega) (show slots ≤ 7293034 by omega) rfl ?_
  rintro r N2 K2 ⟨rfl, Y2, F2, rfl⟩
  refine G_st (st' := [.int _, .int _]) rfl rfl ?_
  refine G_icmp_eq (tgt := 1047) dL_law_808 (by decide) rfl (fun _ => ?_) (fun c => absurd rfl c)
  exact G_widen (by omega) (by omega) (nx _ _ _ ⟨I.1.fy F2, Y2, I.2.2.1, I.2.2.2⟩)
set_option maxRecDepth 100000 in
theorem lw_c14 (hW : WOK L Sh q qi) (I : Inv S N K) (hi : i0 + 5 < Ls) (hL : Ls ≤ 3072) (hc : cells ≤ 700) (hs : slots ≤ 30000) (nx : NX l D cy b Ls xs sa cells slots i0 L Sh q qi) : EL l D cy b Ls xs sa cells slots 813 (lv0 b q i0) [] L Sh (km qi N) (kj qi K) := by
  refine G_aload_n dL_law_813 rfl rfl ?_
  refine G_callK (i := 0) (ci := 3) (d1 := 60) (rest := []) [] dL_law_814 ml_L_91 (by decide) hW rfl rfl rfl rfl (Nat.le_of_ble_eq_true rfl) (c_X3_best (by decide) I.1 I.2.2.1 ) (by decide) (by decide) (show cells ≤ 601024 by omega) (show slots ≤ 7293034 by omega) rfl ?_
  rintro r N1 K1 ⟨rfl, R1, F1⟩
  refine G_st (st' := [.int _]) rfl rfl ?_
  refine G_aload_n dL_law_817 rfl rfl ?_
  refine G_callK (i := 40) (ci := 4) (d1 := 60) (rest := [.int _]) [] dL_law_818 ml_L_94 (by decide) hW rfl rfl rfl rfl (Nat.le_of_ble_eq_true rfl) (c_X4_best (by decide) (I.2.1.fx F1) I.2.2.1 ) (by decide) (by decide) (show cells ≤ 601024 by omega) (show slots ≤ 7293034 by omega) rfl ?_
  rintro r N2 K2 ⟨rfl, Y2, F2, rfl⟩
  refine G_st (st' := [.int _, .int _]) rfl rfl ?_
  refine G_icmp_eq (tgt := 1047) dL_law_821 (by decide) rfl (fun _ => ?_) (fun c => absurd rfl c)
  exact G_widen (by omega) (by omega) (nx _ _ _ ⟨R1.fy F2, Y2, wf_best I.2.2.1 , ch_best S ⟩)
set_option maxRecDepth 100000 in
theorem lw_c15 (hW : WOK L Sh q qi) (I : Inv S N K) (hi : i0 + 5 < Ls) (hL : Ls ≤ 3072) (hc : cells ≤ 700) (hs : slots ≤ 30000) (nx : NX l D cy b Ls xs sa cells slots i0 L Sh q qi) : EL l D cy b Ls xs sa cells slots 826 (lv0 b q i0) [] L Sh (km qi N) (kj qi K) := by
  refine G_aload_n dL_law_826 rfl rfl ?_
  refine G_callK (i := 0) (ci := 3) (d1 := 60) (rest := []) [] dL_law_827 ml_L_95 (by decide) hW rfl rfl rfl rfl (Nat.le_of_ble_eq_true rfl) (c_X3_mend (by decide) I.1 I.2.2.1 ) (by decide) (by decide) (show cells ≤ 601024 by omega) (show slots ≤ 7293034 by omega) rfl ?_
  rintro r N1 K1 ⟨rfl, R1, F1⟩
  refine G_st (st' := [.int _]) rfl rfl ?_
  refine G_aload_n dL_law_830 rfl rfl ?_
  refine G_callK (i := 40) (ci := 4) (d1 := 60) (rest := [.int _]) [] dL_law_831 ml_L_98 (by decide) hW rfl rfl rfl rfl (Nat.le_of_ble_eq_true rfl) (c_X4_mend (by decide) (I.2.1.fx F1) I.2.2.1 ) (by decide) (by decide) (show cells ≤ 601024 by omega) (show slots ≤ 7293034 by omega) rfl ?_
  rintro r N2 K2 ⟨rfl, Y2, F2, rfl⟩
  refine G_st (st' := [.int _, .int _]) rfl rfl ?_
  refine G_icmp_eq (tgt := 1047) dL_law_834 (by decide) rfl (fun _ => ?_) (fun c => absurd rfl c)
  exact G_widen (by omega) (by omega) (nx _ _ _ ⟨R1.fy F2, Y2, wf_mend I.2.2.1 , ch_mend S ⟩)
set_option maxRecDepth 100000 in
theorem lw_c16 (hW : WOK L Sh q qi) (I : Inv S N K) (hi : i0 + 5 < Ls) (hL : Ls ≤ 3072) (hc : cells ≤ 700) (hs : slots ≤ 30000) (nx : NX l D cy b Ls xs sa cells slots i0 L Sh q qi) : EL l D cy b Ls xs sa cells slots 839 (lv0 b q i0) [] L Sh (km qi N) (kj qi K) := by
  refine G_aload_n dL_law_839 rfl rfl ?_
  refine G_callK (i := 0) (ci := 3) (d1 := 60) (rest := []) [] dL_law_840 ml_L_99 (by decide) hW rfl rfl rfl rfl (Nat.le_of_ble_eq_true rfl) (c_X3_trade (by decide) I.1 I.2.2.1 ) (by decide) (by decide) (show cells ≤ 601024 by omega) (show slots ≤ 7293034 by omega) rfl ?_
  rintro r N1 K1 ⟨rfl, R1, F1⟩
  refine G_st (st' := [.int _]) rfl rfl ?_
  refine G_aload_n dL_law_843 rfl rfl ?_
  refine G_callK (i := 40) (ci := 4) (d1 := 60) (rest := [.int _]) [] dL_law_844 ml_L_102 (by decide) hW rfl rfl rfl rfl (Nat.le_of_ble_eq_true rfl) (c_X4_trade (by decide) (I.2.1.fx F1) I.2.2.1 ) (by decide) (by decide) (show cells ≤ 601024 by omega) (show slots ≤ 7293034 by omega) rfl ?_
  rintro r N2 K2 ⟨rfl, Y2, F2, rfl⟩
  refine G_st (st' := [.int _, .int _]) rfl rfl ?_
  refine G_icmp_eq (tgt := 1047) dL_law_847 (by decide) rfl (fun _ => ?_) (fun c => absurd rfl c)
  exact G_widen (by omega) (by omega) (nx _ _ _ ⟨R1.fy F2, Y2, wf_trade I.2.2.1 , ch_trade S ⟩)
set_option maxRecDepth 100000 in
theorem lw_c17 (hW : WOK L Sh q qi) (I : Inv S N K) (hi : i0 + 5 < Ls) (hL : Ls ≤ 3072) (hc : cells ≤ 700) (hs : slots ≤ 30000) (nx : NX l D cy b Ls xs sa cells slots i0 L Sh q qi) : EL l D cy b Ls xs sa cells slots 852 (lv0 b q i0) [] L Sh (km qi N) (kj qi K) := by
  refine G_aload_n dL_law_852 rfl rfl ?_
  refine G_callK (i := 0) (ci := 3) (d1 := 60) (rest := []) [] dL_law_853 ml_L_103 (by decide) hW rfl rfl rfl rfl (Nat.le_of_ble_eq_true rfl) (c_X3_blocks (by decide) I.1 I.2.2.1 ) (by decide) (by decide) (show cells ≤ 601024 by omega) (show slots ≤ 7293034 by omega) rfl ?_
  rintro r N1 K1 ⟨rfl, R1, F1⟩
  refine G_st (st' := [.int _]) rfl rfl ?_
  refine G_aload_n dL_law_856 rfl rfl ?_
  refine G_callK (i := 40) (ci := 4) (d1 := 60) (rest := [.int _]) [] dL_law_857 ml_L_106 (by decide) hW rfl rfl rfl rfl (Nat.le_of_ble_eq_true rfl) (c_X4_blocks (by decide) (I.2.1.fx F1) I.2.2.1 ) (by decide) (by decide) (show cells ≤ 601024 by omega) (show slots ≤ 7293034 by omega) rfl ?_
  rintro r N2 K2 ⟨rfl, Y2, F2, rfl⟩
  refine G_st (st' := [.int _, .int _]) rfl rfl ?_
  refine G_icmp_eq (tgt := 1047) dL_law_860 (by decide) rfl (fun _ => ?_) (fun c => absurd rfl c)
  exact G_widen (by omega) (by omega) (nx _ _ _ ⟨R1.fy F2, Y2, wf_blocks I.2.2.1 , ch_blocks S ⟩)
set_option maxRecDepth 100000 in
theorem lw_c18 (hW : WOK L Sh q qi) (I : Inv S N K) (hi : i0 + 5 < Ls) (hL : Ls ≤ 3072) (hc : cells ≤ 700) (hs : slots ≤ 30000) (nx : NX l D cy b Ls xs sa cells slots i0 L Sh q qi) : EL l D cy b Ls xs sa cells slots 865 (lv0 b q i0) [] L Sh (km qi N) (kj qi K) := by
  refine G_aload_n dL_law_865 rfl rfl ?_
  refine L_arg (i0 := i0) (c := 1) (z := 1) dL_law_866 dL_law_867 dL_law_869 dL_law_870 dL_law_871 rfl rfl (by decide) (by omega) hL rfl ?_
  refine G_callK (i := 0) (ci := 3) (d1 := 60) (rest := []) [(.int (xs (i0 + 1)))] dL_law_872 ml_L_107 (by decide) hW rfl rfl rfl rfl (Nat.le_of_ble_eq_true rfl) (c_X3_ring (by decide) I.1 I.2.2.1 ) (by decide) (by decide) (show cells ≤ 601024 by omega) (show slots ≤ 7293034 by omega) rfl ?_
  rintro r N1 K1 ⟨rfl, R1, F1⟩
  refine G_st (st' := [.int _]) rfl rfl ?_
  refine G_aload_n dL_law_875 rfl rfl ?_
  refine L_arg (i0 := i0) (c := 1) (z := 1) dL_law_876 dL_law_877 dL_law_879 dL_law_880 dL_law_881 rfl rfl (by decide) (by omega) hL rfl ?_
  refine G_callK (i := 40) (ci := 4) (d1 := 60) (rest := [.int _]) [(.int (xs (i0 + 1)))] dL_law_882 ml_L_110 (by decide) hW rfl rfl rfl rfl (Nat.le_of_ble_eq_true rfl) (c_X4_ring (by decide) (I.2.1.fx F1) I.2.2.1 ) (by decide) (by decide) (show cells ≤ 601024 by omega) (show slots ≤ 7293034 by omega) rfl ?_
  rintro r N2 K2 ⟨rfl, Y2, F2, rfl⟩
  refine G_st (st' := [.int _, .int _]) rfl rfl ?_
  refine G_icmp_eq (tgt := 1047) dL_law_885 (by decide) rfl (fun _ => ?_) (fun c => absurd rfl c)
  exact G_widen (by omega) (by omega) (nx _ _ _ ⟨R1.fy F2, Y2, wf_ring I.2.2.1 (xs (i0 + 1)), ch_ring S (xs (i0 + 1))⟩)
set_option maxRecDepth 100000 in
theorem lw_c19 (hW : WOK L Sh q qi) (I : Inv S N K) (hi : i0 + 5 < Ls) (hL : Ls ≤ 3072) (hc : cells ≤ 700) (hs : slots ≤ 30000) (nx : NX l D cy b Ls xs sa cells slots i0 L Sh q qi) : EL l D cy b Ls xs sa cells slots 890 (lv0 b q i0) [] L Sh (km qi N) (kj qi K) := by
  refine G_aload_n dL_law_890 rfl rfl ?_
  refine L_arg (i0 := i0) (c := 1) (z := 1) dL_law_891 dL_law_892 dL_law_894 dL_law_895 dL_law_896 rfl rfl (by decide) (by omega) hL rfl ?_
  refine G_callK (i := 0) (ci := 3) (d1 := 60) (rest := []) [(.int (xs (i0 + 1)))] dL_law_897 ml_L_111 (by decide) hW rfl rfl rfl rfl (Nat.le_of_ble_eq_true rfl) (c_X3_chain (by decide) I.1 I.2.2.1 ) (by decide) (by decide) (show cells ≤ 601024 by omega) (show slots ≤ 7293034 by omega) rfl ?_
  rintro r N1 K1 ⟨rfl, R1, F1⟩
  refine G_st (st' := [.int _]) rfl rfl ?_
  refine G_aload_n dL_law_900 rfl rfl ?_
  refine L_arg (i0 := i0) (c := 1) (z := 1) dL_law_901 dL_law_902 dL_law_904 dL_law_905 dL_law_906 rfl rfl (by decide) (by omega) hL rfl ?_
  refine G_callK (i := 40) (ci := 4) (d1 := 60) (rest := [.int _]) [(.int (xs (i0 + 1)))] dL_law_907 ml_L_114 (by decide) hW rfl rfl rfl rfl (Nat.le_of_ble_eq_true rfl) (c_X4_chain (by decide) (I.2.1.fx F1) I.2.2.1 ) (by decide) (by decide) (show cells ≤ 601024 by omega) (show slots ≤ 7293034 by omega) rfl ?_
  rintro r N2 K2 ⟨rfl, Y2, F2, rfl⟩
  refine G_st (st' := [.int _, .int _]) rfl rfl ?_
  refine G_icmp_eq (tgt := 1047) dL_law_910 (by decide) rfl (fun _ => ?_) (fun c => absurd rfl c)
  exact G_widen (by omega) (by omega) (nx _ _ _ ⟨R1.fy F2, Y2, wf_chain I.2.2.1 (xs (i0 + 1)), ch_chain S (xs (i0 + 1))⟩)
set_option maxRecDepth 100000 in
theorem lw_c20 (hW : WOK L Sh q qi) (I : Inv S N K) (hi : i0 + 5 < Ls) (hL : Ls ≤ 3072) (hc : cells ≤ 700) (hs : slots ≤ 30000) (nx : NX l D cy b Ls xs sa cells slots i0 L Sh q qi) : EL l D cy b Ls xs sa cells slots 915 (lv0 b q i0) [] L Sh (km qi N) (kj qi K) := by
  refine G_aload_n dL_law_915 rfl rfl ?_
  refine G_callK (i := 0) (ci := 3) (d1 := 60) (rest := []) [] dL_law_916 ml_L_115 (by decide) hW rfl rfl rfl rfl (Nat.le_of_ble_eq_true rfl) (c_X3_travel (by decide) I.1 I.2.2.1 (fun h => by have := I.2.2.2 h; omega)) (by decide) (by decide) (show cells ≤ 601024 by omega) (show slots ≤ 7293034 by omega) rfl ?_
  rintro r N1 K1 ⟨rfl, R1, F1⟩
  refine G_st (st' := [.int _]) rfl rfl ?_
  refine G_aload_n dL_law_919 rfl rfl ?_
  refine G_callK (i := 40) (ci := 4) (d1 := 60) (rest := [.int _]) [] dL_law_920 ml_L_118 (by decide) hW rfl rfl rfl rfl (Nat.le_of_ble_eq_true rfl) (c_X4_travel (by decide) (I.2.1.fx F1) I.2.2.1 (fun h => by have := I.2.2.2 h; omega)) (by decide) (by decide) (show cells ≤ 601024 by omega) (show slots ≤ 7293034 by omega) rfl ?_
  rintro r N2 K2 ⟨rfl, Y2, F2, rfl⟩
  refine G_st (st' := [.int _, .int _]) rfl rfl ?_
  refine G_icmp_eq (tgt := 1047) dL_law_923 (by decide) rfl (fun _ => ?_) (fun c => absurd rfl c)
  exact G_widen (by omega) (by omega) (nx _ _ _ ⟨R1.fy F2, Y2, wf_travel I.2.2.1 (fun h => by have := I.2.2.2 h; omega), ch_travel I.2.2.2⟩)
set_option maxRecDepth 100000 in
theorem lw_c21 (hW : WOK L Sh q qi) (I : Inv S N K) (hi : i0 + 5 < Ls) (hL : Ls ≤ 3072) (hc : cells ≤ 700) (hs : slots ≤ 30000) (nx : NX l D cy b Ls xs sa cells slots i0 L Sh q qi) : EL l D cy b Ls xs sa cells slots 928 (lv0 b q i0) [] L Sh (km qi N) (kj qi K) := by
  refine G_aload_n dL_law_928 rfl rfl ?_
  refine G_callK (i := 0) (ci := 3) (d1 := 60) (rest := []) [] dL_law_929 ml_L_119 (by decide) hW rfl rfl rfl rfl (Nat.le_of_ble_eq_true rfl) (c_X3_book (by decide) I.1 I.2.2.1 ) (by decide) (by decide) (show cells ≤ 601024 by omega) (show slots ≤ 7293034 by omega) rfl ?_
  rintro r N1 K1 ⟨rfl, R1, F1⟩
  refine G_st (st' := [.int _]) rfl rfl ?_
  refine G_aload_n dL_law_932 rfl rfl ?_
  refine G_callK (i := 40) (ci := 4) (d1 := 60) (rest := [.int _]) [] dL_law_933 ml_L_122 (by decide) hW rfl rfl rfl rfl (Nat.le_of_ble_eq_true rfl) (c_X4_book (by decide) (I.2.1.fx F1) I.2.2.1 ) (by decide) (by decide) (show cells ≤ 601024 by omega) (show slots ≤ 7293034 by omega) rfl ?_
  rintro r N2 K2 ⟨rfl, Y2, F2, rfl⟩
  refine G_st (st' := [.int _, .int _]) rfl rfl ?_
  refine G_icmp_eq (tgt := 1047) dL_law_936 (by decide) rfl (fun _ => ?_) (fun c => absurd rfl c)
  exact G_widen (by omega) (by omega) (nx _ _ _ ⟨R1.fy F2, Y2, wf_book I.2.2.1 , ch_book S ⟩)
set_option maxRecDepth 100000 in
theorem lw_c22 (hW : WOK L Sh q qi) (I : Inv S N K) (hi : i0 + 5 < Ls) (hL : Ls ≤ 3072) (hc : cells ≤ 700) (hs : slots ≤ 30000) (nx : NX l D cy b Ls xs sa cells slots i0 L Sh q qi) : EL l D cy b Ls xs sa cells slots 941 (lv0 b q i0) [] L Sh (km qi N) (kj qi K) := by
  refine G_aload_n dL_law_941 rfl rfl ?_
  refine L_arg (i0 := i0) (c := 1) (z := 1) dL_law_942 dL_law_943 dL_law_945 dL_law_946 dL_law_947 rfl rfl (by decide) (by omega) hL rfl ?_
  refine L_arg (i0 := i0) (c := 2) (z := 2) dL_law_948 dL_law_949 dL_law_951 dL_law_952 dL_law_953 rfl rfl (by decide) (by omega) hL rfl ?_
  refine G_callK (i := 0) (ci := 3) (d1 := 60) (rest := []) [(.int (xs (i0 + 1))), (.int (xs (i0 + 2)))] dL_law_954 ml_L_123 (by decide) hW rfl rfl rfl rfl (Nat.le_of_ble_eq_true rfl) (c_X3_went (by decide) I.1 I.2.2.1 ) (by decide) (by decide) (show cells ≤ 601024 by omega) (show slots ≤ 7293034 by omega) rfl ?_
  rintro r N1 K1 ⟨rfl, rfl, rfl⟩
  refine G_st (st' := [.int _]) rfl rfl ?_
  refine G_aload_n dL_law_957 rfl rfl ?_
  refine L_arg (i0 := i0) (c := 1) (z := 1) dL_law_958 dL_law_959 dL_law_961 dL_law_962 dL_law_963 rfl rfl (by decide) (by omega) hL rfl ?_
  refine L_arg (i0 := i0) (c := 2) (z := 2) dL_law_964 dL_law_965 dL_law_967 dL_law_968 dL_law_969 rfl rfl (by decide) (by omega) hL rfl ?_
  refine G_callK (i := 40) (ci := 4) (d1 := 60) (rest := [.int _]) [(.int (xs (i0 + 1))), (.int (xs (i0 + 2)))] dL_law_970 ml_L_126 (by decide) hW rfl rfl rfl rfl (Nat.le_of_ble_eq_true rfl) (c_X4_went (by decide) I.2.1 I.2.2.1 ) (by decide) (by decide) (show cells ≤ 601024 by omega) (show slots ≤ 7293034 by omega) rfl ?_
  rintro r N2 K2 ⟨rfl, Y2, F2, rfl⟩
  refine G_st (st' := [.int _, .int _]) rfl rfl ?_
  refine G_icmp_eq (tgt := 1047) dL_law_973 (by decide) rfl (fun _ => ?_) (fun c => absurd rfl c)
  exact G_widen (by omega) (by omega) (nx _ _ _ ⟨I.1.fy F2, Y2, I.2.2.1, I.2.2.2⟩)
set_option maxRecDepth 100000 in
theorem lw_c23 (hW : WOK L Sh q qi) (I : Inv S N K) (hi : i0 + 5 < Ls) (hL : Ls ≤ 3072) (hc : cells ≤ 700) (hs : slots ≤ 30000) (nx : NX l D cy b Ls xs sa cells slots i0 L Sh q qi) : EL l D cy b Ls xs sa cells slots 978 (lv0 b q i0) [] L Sh (km qi N) (kj qi K) := by
  refine G_aload_n dL_law_978 rfl rfl ?_
  refine G_callK (i := 0) (ci := 3) (d1 := 60) (rest := []) [] dL_law_979 ml_L_127 (by decide) hW rfl rfl rfl rfl (Nat.le_of_ble_eq_true rfl) (c_X3_undo (by decide) I.1 I.2.2.1 ) (by decide) (by decide) (show cells ≤ 601024 by omega) (show slots ≤ 7293034 by omega) rfl ?_
  rintro r N1 K1 ⟨rfl, R1, F1⟩
  refine G_st (st' := [.int _]) rfl rfl ?_
  refine G_aload_n dL_law_982 rfl rfl ?_
  refine G_callK (i := 40) (ci := 4) (d1 := 60) (rest := [.int _]) [] dL_law_983 ml_L_130 (by decide) hW rfl rfl rfl rfl (Nat.le_of_ble_eq_true rfl) (c_X4_undo (by decide) (I.2.1.fx F1) I.2.2.1 ) (by decide) (by decide) (show cells ≤ 601024 by omega) (show slots ≤ 7293034 by omega) rfl ?_
  rintro r N2 K2 ⟨rfl, Y2, F2, rfl⟩
  refine G_st (st' := [.int _, .int _]) rfl rfl ?_
  refine G_icmp_eq (tgt := 1047) dL_law_986 (by decide) rfl (fun _ => ?_) (fun c => absurd rfl c)
  exact G_widen (by omega) (by omega) (nx _ _ _ ⟨R1.fy F2, Y2, wf_undo I.2.2.1 , ch_undo S ⟩)
set_option maxRecDepth 100000 in
theorem lw_c24 (htr : l.stackTraces = false) (hout : fr_at L Sh (q 99) outS) (hW : WOK L Sh q qi) (I : Inv S N K) (hi : i0 + 5 < Ls) (hL : Ls ≤ 3072) (hc : cells ≤ 700) (hs : slots ≤ 30000) (nx : NX l D cy b Ls xs sa cells slots i0 L Sh q qi) : EL l D cy b Ls xs sa cells slots 991 (lv0 b q i0) [] L Sh (km qi N) (kj qi K) := by
  refine G_aload_n dL_law_991 rfl rfl ?_
  refine L_arg (i0 := i0) (c := 1) (z := 1) dL_law_992 dL_law_993 dL_law_995 dL_law_996 dL_law_997 rfl rfl (by decide) (by omega) hL rfl ?_
  refine G_aload_n dL_law_998 rfl rfl ?_
  cases ho : (o_row S (xs (i0 + 1))).2 with
  | false =>
    refine L_help (na := 3) (rest := []) [.ref (q 0), (.int (xs (i0 + 1))), .ref (q 99)] dL_law_999 hw_row (by decide +kernel) (by decide) rfl rfl (Nat.le_of_ble_eq_true rfl) (h_row_ret I.1 I.2.2.1 ho hW hout) (by omega) (by omega) rfl ?_
    rintro r L1 Sh1 M1 J1 ⟨rfl, rfl, rfl, rfl, rfl⟩
    refine G_st (st' := [.int (nI 0)]) rfl rfl ?_
    refine G_istore (lv' := [(0, .ref b), (1, .ref (q 0)), (2, .ref (q 40)), (3, .ref (q 99)), (4, .int (nI i0)), (5, .int (nI 0))]) dL_law_1002 (by decide) rfl rfl ?_
    refine G_aload_n dL_law_1004 rfl rfl ?_
    refine L_arg (i0 := i0) (c := 1) (z := 1) dL_law_1005 dL_law_1006 dL_law_1008 dL_law_1009 dL_law_1010 rfl rfl (by decide) (by omega) hL rfl ?_
    refine G_callK (i := 40) (ci := 4) (d1 := 60) (rest := []) [(.int (xs (i0 + 1)))] dL_law_1011 ml_L_134 (by decide) hW rfl rfl rfl rfl (Nat.le_of_ble_eq_true rfl) (c_X4_row (by decide) I.2.1 I.2.2.1) (by decide) (by decide) (show cells + 1 ≤ 601024 by omega) (show slots + 6 ≤ 7293034 by omega) rfl ?_
    rintro r N2 K2 ⟨rfl, hth, Y2, F2, rfl⟩
    refine G_st (st' := [.int (o_row S (xs (i0 + 1))).1]) rfl rfl ?_
    refine G_istore (lv' := [(0, .ref b), (1, .ref (q 0)), (2, .ref (q 40)), (3, .ref (q 99)), (4, .int (nI i0)), (5, .int (nI 0)), (6, .int (o_row S (xs (i0 + 1))).1)]) dL_law_1014 (by decide) rfl rfl ?_
    refine G_aload_n dL_law_1016 rfl rfl ?_
    refine G_callK (i := 40) (ci := 4) (d1 := 60) (rest := []) [] dL_law_1017 ml_L_66 (by decide) hW rfl rfl rfl rfl (Nat.le_of_ble_eq_true rfl) (c_X4_thrown hth) (by decide) (by decide) (show cells + 1 ≤ 601024 by omega) (show slots + 6 ≤ 7293034 by omega) rfl ?_
    rintro r N3 K3 ⟨rfl, rfl, rfl⟩
    refine G_st (st' := [.int (bI (o_row S (xs (i0 + 1))).2)]) rfl rfl ?_
    refine G_iload dL_law_1020 rfl rfl ?_
    refine G_icmp_eq (tgt := 1027) dL_law_1022 (by decide) rfl (fun _ => ?_) (fun c => absurd (by rw [ho]; rfl) c)
    refine G_iload dL_law_1027 rfl rfl ?_
    refine G_if_ne (tgt := 1044) dL_law_1029 (by decide) rfl (fun c => absurd rfl c) (fun _ => ?_)
    refine G_aload_n dL_law_1032 rfl rfl ?_
    refine G_iconst (v := nI 0) dL_law_1033 (by decide) rfl ?_
    refine G_lald (v := (o_row S (xs (i0 + 1))).1.toInt64) dL_law_1034 hout (by decide) (by decide) ?_ rfl ?_
    · show sJ K 99 0 (o_row S (xs (i0 + 1))).1.toInt64 (qi (q 99)) 0 = _
      rw [hW.1 99 (by decide), sJ_at, if_pos ⟨rfl, rfl⟩]
    refine G_iload dL_law_1035 rfl rfl ?_
    refine G_i2l dL_law_1037 rfl ?_
    refine G_lcmp dL_law_1038 rfl ?_
    refine G_if_eq (tgt := 1044) dL_law_1039 (by decide) rfl (fun _ => ?_) (fun c => absurd ((lg_cmp_eq _ _).mpr rfl) c)
    refine G_goto (tgt := 1047) dL_law_1044 (by decide) ?_
    refine L_sub (lv' := lv0 b q i0) (fun p hp => List.mem_append_left _ hp) ?_
    exact nx S _ _ ⟨(I.1.k99 0 _).fy F2, Y2, I.2.2.1, I.2.2.2⟩
  | true =>
    refine L_help (na := 3) (rest := []) [.ref (q 0), (.int (xs (i0 + 1))), .ref (q 99)] dL_law_999 hw_row (by decide +kernel) (by decide) rfl rfl (Nat.le_of_ble_eq_true rfl) (h_row_thr htr I.1 I.2.2.1 ho hW) (by omega) (by omega) rfl ?_
    rintro r L1 Sh1 M1 J1 ⟨rfl, rfl, rfl, rfl, rfl⟩
    refine G_st (st' := [.int (nI 1)]) rfl rfl ?_
    refine G_istore (lv' := [(0, .ref b), (1, .ref (q 0)), (2, .ref (q 40)), (3, .ref (q 99)), (4, .int (nI i0)), (5, .int (nI 1))]) dL_law_1002 (by decide) rfl rfl ?_
    refine G_aload_n dL_law_1004 rfl rfl ?_
    refine L_arg (i0 := i0) (c := 1) (z := 1) dL_law_1005 dL_law_1006 dL_law_1008 dL_law_1009 dL_law_1010 rfl rfl (by decide) (by omega) hL rfl ?_
    refine G_callK (i := 40) (ci := 4) (d1 := 60) (rest := []) [(.int (xs (i0 + 1)))] dL_law_1011 ml_L_134 (by decide) hW rfl rfl rfl rfl (Nat.le_of_ble_eq_true rfl) (c_X4_row (by decide) I.2.1 I.2.2.1) (by decide) (by decide) (show cells + 1 ≤ 601024 by omega) (show slots + 6 ≤ 7293034 by omega) rfl ?_
    rintro r N2 K2 ⟨rfl, hth, Y2, F2, rfl⟩
    refine G_st (st' := [.int (o_row S (xs (i0 + 1))).1]) rfl rfl ?_
    refine G_istore (lv' := [(0, .ref b), (1, .ref (q 0)), (2, .ref (q 40)), (3, .ref (q 99)), (4, .int (nI i0)), (5, .int (nI 1)), (6, .int (o_row S (xs (i0 + 1))).1)]) dL_law_1014 (by decide) rfl rfl ?_
    refine G_aload_n dL_law_1016 rfl rfl ?_
    refine G_callK (i := 40) (ci := 4) (d1 := 60) (rest := []) [] dL_law_1017 ml_L_66 (by decide) hW rfl rfl rfl rfl (Nat.le_of_ble_eq_true rfl) (c_X4_thrown hth) (by decide) (by decide) (show cells + 1 ≤ 601024 by omega) (show slots + 6 ≤ 7293034 by omega) rfl ?_
    rintro r N3 K3 ⟨rfl, rfl, rfl⟩
    refine G_st (st' := [.int (bI (o_row S (xs (i0 + 1))).2)]) rfl rfl ?_
    refine G_iload dL_law_1020 rfl rfl ?_
    refine G_icmp_eq (tgt := 1027) dL_law_1022 (by decide) rfl (fun _ => ?_) (fun c => absurd (by rw [ho]; rfl) c)
    refine G_iload dL_law_1027 rfl rfl ?_
    refine G_if_ne (tgt := 1044) dL_law_1029 (by decide) rfl (fun _ => ?_) (fun c => absurd c (by decide))
    refine G_goto (tgt := 1047) dL_law_1044 (by decide) ?_
    refine L_sub (lv' := lv0 b q i0) (fun p hp => List.mem_append_left _ hp) ?_
    exact nx S _ _ ⟨I.1.fy F2, Y2, I.2.2.1, I.2.2.2⟩
end CASES
