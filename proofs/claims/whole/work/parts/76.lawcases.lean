/-! THE LAW: its 28 cases -/
section LAWC
variable {p : Program} {l : Launch} {e : Env} {s : State} {m : MethodId} {below : List Frame} {meth : Method} {c : Code} {b L : Nat} {xs : Nat → Int32} {D : va_G} {cA : FieldType → ClassId} {H : Heap} {locs : List Loc} {cells slots : Nat} {Z : State → Prop} {ls : Array Slot} {rest st0 : List Value} {a1 a2 i : Nat} {σ : ST} {hC hM : AH} {adC adM : Nat → Nat}
theorem lc_0 (K : LK p s m meth c b L xs D cA) (hI : LI D cA s a1 a2 σ hC hM adC adM H locs) (hl : LV b a1 a2 i ls) (hi : i + 6 ≤ L) (hcs : cells ≤ 600000 ∧ slots ≤ 7302250) (kont : ∀ (σ' : ST) (hC' hM' : AH) (adC' adM' : Nat → Nat) (H' : Heap) (locs' : List Loc), LI D cA s a1 a2 σ' hC' hM' adC' adM' H' locs' → W p l e room_1 s m #[Value.ref b] below meth c H' locs' cells slots Z (F0 m 880 ls [])) : W p l e room_1 s m #[Value.ref b] below meth c H locs cells slots Z (F0 m 160 ls []) := by
  obtain ⟨hx, hb, -⟩ := id K.1
  have hS := hI.2.2.2.2.2
  refine lv_aload_n hx hb dl_160 rfl (lv_at hl 1 rfl) ?_
  refine lw_arg (k := 1) K hS hl hi (by omega) rfl dl_161 dl_162 dl_163 dl_164 dl_165 ?_
  refine lw_two (is := [XI xs (i + 1)]) K hI hl hcs oL_Su_write oL_Mo_write tw_602 tw_1171 ⟨⟨rfl, rfl⟩, rfl, rfl⟩ rfl (List.forall_mem_cons.mpr ⟨ok32_XI _ _, fun _ h => absurd h List.not_mem_nil⟩) (p_write hI.1.1 hI.1.2.1 hI.1.2.2) dl_166 dl_175 dl_178 rfl (fun H' locs' rest hS kk => ?_) kont
  refine lv_aload_n hx hb dl_169 rfl (lv_at hl 2 rfl) ?_
  refine lw_arg (k := 1) K hS hl hi (by omega) rfl dl_170 dl_171 dl_172 dl_173 dl_174 ?_
  exact kk
theorem lc_1 (K : LK p s m meth c b L xs D cA) (hI : LI D cA s a1 a2 σ hC hM adC adM H locs) (hl : LV b a1 a2 i ls) (hi : i + 6 ≤ L) (hcs : cells ≤ 600000 ∧ slots ≤ 7302250) (kont : ∀ (σ' : ST) (hC' hM' : AH) (adC' adM' : Nat → Nat) (H' : Heap) (locs' : List Loc), LI D cA s a1 a2 σ' hC' hM' adC' adM' H' locs' → W p l e room_1 s m #[Value.ref b] below meth c H' locs' cells slots Z (F0 m 880 ls [])) : W p l e room_1 s m #[Value.ref b] below meth c H locs cells slots Z (F0 m 183 ls []) := by
  obtain ⟨hx, hb, -⟩ := id K.1
  have hS := hI.2.2.2.2.2
  refine lv_aload_n hx hb dl_183 rfl (lv_at hl 1 rfl) ?_
  refine lw_two (is := []) K hI hl hcs oL_Su_wipe oL_Mo_wipe tw_606 tw_1180 ⟨⟨rfl, rfl⟩, rfl, rfl⟩ rfl (fun _ h => absurd h List.not_mem_nil) (p_wipe hI.1.1 hI.1.2.1 hI.1.2.2) dl_184 dl_188 dl_191 rfl (fun H' locs' rest hS kk => ?_) kont
  refine lv_aload_n hx hb dl_187 rfl (lv_at hl 2 rfl) ?_
  exact kk
theorem lc_2 (K : LK p s m meth c b L xs D cA) (hI : LI D cA s a1 a2 σ hC hM adC adM H locs) (hl : LV b a1 a2 i ls) (hi : i + 6 ≤ L) (hcs : cells ≤ 600000 ∧ slots ≤ 7302250) (kont : ∀ (σ' : ST) (hC' hM' : AH) (adC' adM' : Nat → Nat) (H' : Heap) (locs' : List Loc), LI D cA s a1 a2 σ' hC' hM' adC' adM' H' locs' → W p l e room_1 s m #[Value.ref b] below meth c H' locs' cells slots Z (F0 m 880 ls [])) : W p l e room_1 s m #[Value.ref b] below meth c H locs cells slots Z (F0 m 196 ls []) := by
  obtain ⟨hx, hb, -⟩ := id K.1
  have hS := hI.2.2.2.2.2
  refine lv_aload_n hx hb dl_196 rfl (lv_at hl 1 rfl) ?_
  refine lw_two (is := []) K hI hl hcs oL_Su_fault oL_Mo_fault tw_610 tw_1184 ⟨⟨rfl, rfl⟩, rfl, rfl⟩ rfl (fun _ h => absurd h List.not_mem_nil) (p_fault hI.1.1 hI.1.2.1 hI.1.2.2) dl_197 dl_201 dl_204 rfl (fun H' locs' rest hS kk => ?_) kont
  refine lv_aload_n hx hb dl_200 rfl (lv_at hl 2 rfl) ?_
  exact kk
theorem lc_3 (K : LK p s m meth c b L xs D cA) (hI : LI D cA s a1 a2 σ hC hM adC adM H locs) (hl : LV b a1 a2 i ls) (hi : i + 6 ≤ L) (hcs : cells ≤ 600000 ∧ slots ≤ 7302250) (kont : ∀ (σ' : ST) (hC' hM' : AH) (adC' adM' : Nat → Nat) (H' : Heap) (locs' : List Loc), LI D cA s a1 a2 σ' hC' hM' adC' adM' H' locs' → W p l e room_1 s m #[Value.ref b] below meth c H' locs' cells slots Z (F0 m 880 ls [])) : W p l e room_1 s m #[Value.ref b] below meth c H locs cells slots Z (F0 m 209 ls []) := by
  obtain ⟨hx, hb, -⟩ := id K.1
  have hS := hI.2.2.2.2.2
  refine lv_aload_n hx hb dl_209 rfl (lv_at hl 1 rfl) ?_
  refine lw_two (is := []) K hI hl hcs oL_Su_lay oL_Mo_lay tw_614 tw_1220 ⟨⟨rfl, rfl⟩, rfl, rfl⟩ rfl (fun _ h => absurd h List.not_mem_nil) (p_lay hI.1.1 hI.1.2.1 hI.1.2.2) dl_210 dl_214 dl_217 rfl (fun H' locs' rest hS kk => ?_) kont
  refine lv_aload_n hx hb dl_213 rfl (lv_at hl 2 rfl) ?_
  exact kk
theorem lc_4 (K : LK p s m meth c b L xs D cA) (hI : LI D cA s a1 a2 σ hC hM adC adM H locs) (hl : LV b a1 a2 i ls) (hi : i + 6 ≤ L) (hcs : cells ≤ 600000 ∧ slots ≤ 7302250) (kont : ∀ (σ' : ST) (hC' hM' : AH) (adC' adM' : Nat → Nat) (H' : Heap) (locs' : List Loc), LI D cA s a1 a2 σ' hC' hM' adC' adM' H' locs' → W p l e room_1 s m #[Value.ref b] below meth c H' locs' cells slots Z (F0 m 880 ls [])) : W p l e room_1 s m #[Value.ref b] below meth c H locs cells slots Z (F0 m 222 ls []) := by
  obtain ⟨hx, hb, -⟩ := id K.1
  have hS := hI.2.2.2.2.2
  refine lv_aload_n hx hb dl_222 rfl (lv_at hl 1 rfl) ?_
  refine lw_arg (k := 1) K hS hl hi (by omega) rfl dl_223 dl_224 dl_225 dl_226 dl_227 ?_
  refine lw_arg (k := 2) K hS hl hi (by omega) rfl dl_228 dl_229 dl_230 dl_231 dl_232 ?_
  refine lw_two (is := [XI xs (i + 1), XI xs (i + 2)]) K hI hl hcs oL_Su_road oL_Mo_road tw_622 tw_1225 ⟨⟨rfl, rfl⟩, rfl, rfl⟩ rfl (List.forall_mem_cons.mpr ⟨ok32_XI _ _, List.forall_mem_cons.mpr ⟨ok32_XI _ _, fun _ h => absurd h List.not_mem_nil⟩⟩) (p_road hI.1.1 hI.1.2.1 hI.1.2.2) dl_233 dl_247 dl_250 rfl (fun H' locs' rest hS kk => ?_) kont
  refine lv_aload_n hx hb dl_236 rfl (lv_at hl 2 rfl) ?_
  refine lw_arg (k := 1) K hS hl hi (by omega) rfl dl_237 dl_238 dl_239 dl_240 dl_241 ?_
  refine lw_arg (k := 2) K hS hl hi (by omega) rfl dl_242 dl_243 dl_244 dl_245 dl_246 ?_
  exact kk
theorem lc_5 (K : LK p s m meth c b L xs D cA) (hI : LI D cA s a1 a2 σ hC hM adC adM H locs) (hl : LV b a1 a2 i ls) (hi : i + 6 ≤ L) (hcs : cells ≤ 600000 ∧ slots ≤ 7302250) (kont : ∀ (σ' : ST) (hC' hM' : AH) (adC' adM' : Nat → Nat) (H' : Heap) (locs' : List Loc), LI D cA s a1 a2 σ' hC' hM' adC' adM' H' locs' → W p l e room_1 s m #[Value.ref b] below meth c H' locs' cells slots Z (F0 m 880 ls [])) : W p l e room_1 s m #[Value.ref b] below meth c H locs cells slots Z (F0 m 255 ls []) := by
  obtain ⟨hx, hb, -⟩ := id K.1
  have hS := hI.2.2.2.2.2
  refine lv_aload_n hx hb dl_255 rfl (lv_at hl 1 rfl) ?_
  refine lw_arg (k := 1) K hS hl hi (by omega) rfl dl_256 dl_257 dl_258 dl_259 dl_260 ?_
  refine lw_two (is := [XI xs (i + 1)]) K hI hl hcs oL_Su_at oL_Mo_at tw_643 tw_1240 ⟨⟨rfl, rfl⟩, rfl, rfl⟩ rfl (List.forall_mem_cons.mpr ⟨ok32_XI _ _, fun _ h => absurd h List.not_mem_nil⟩) (p_at hI.1.1 hI.1.2.1 hI.1.2.2) dl_261 dl_270 dl_273 rfl (fun H' locs' rest hS kk => ?_) kont
  refine lv_aload_n hx hb dl_264 rfl (lv_at hl 2 rfl) ?_
  refine lw_arg (k := 1) K hS hl hi (by omega) rfl dl_265 dl_266 dl_267 dl_268 dl_269 ?_
  exact kk
theorem lc_6 (K : LK p s m meth c b L xs D cA) (hI : LI D cA s a1 a2 σ hC hM adC adM H locs) (hl : LV b a1 a2 i ls) (hi : i + 6 ≤ L) (hcs : cells ≤ 600000 ∧ slots ≤ 7302250) (kont : ∀ (σ' : ST) (hC' hM' : AH) (adC' adM' : Nat → Nat) (H' : Heap) (locs' : List Loc), LI D cA s a1 a2 σ' hC' hM' adC' adM' H' locs' → W p l e room_1 s m #[Value.ref b] below meth c H' locs' cells slots Z (F0 m 880 ls [])) : W p l e room_1 s m #[Value.ref b] below meth c H locs cells slots Z (F0 m 278 ls []) := by
  obtain ⟨hx, hb, -⟩ := id K.1
  have hS := hI.2.2.2.2.2
  refine lv_aload_n hx hb dl_278 rfl (lv_at hl 1 rfl) ?_
  refine lw_arg (k := 1) K hS hl hi (by omega) rfl dl_279 dl_280 dl_281 dl_282 dl_283 ?_
  refine lw_two (is := [XI xs (i + 1)]) K hI hl hcs oL_Su_cross oL_Mo_cross tw_647 tw_1247 ⟨⟨rfl, rfl⟩, rfl, rfl⟩ rfl (List.forall_mem_cons.mpr ⟨ok32_XI _ _, fun _ h => absurd h List.not_mem_nil⟩) (p_cross hI.1.1 hI.1.2.1 hI.1.2.2) dl_284 dl_293 dl_296 rfl (fun H' locs' rest hS kk => ?_) kont
  refine lv_aload_n hx hb dl_287 rfl (lv_at hl 2 rfl) ?_
  refine lw_arg (k := 1) K hS hl hi (by omega) rfl dl_288 dl_289 dl_290 dl_291 dl_292 ?_
  exact kk
theorem lc_7 (K : LK p s m meth c b L xs D cA) (hI : LI D cA s a1 a2 σ hC hM adC adM H locs) (hl : LV b a1 a2 i ls) (hi : i + 6 ≤ L) (hcs : cells ≤ 600000 ∧ slots ≤ 7302250) (kont : ∀ (σ' : ST) (hC' hM' : AH) (adC' adM' : Nat → Nat) (H' : Heap) (locs' : List Loc), LI D cA s a1 a2 σ' hC' hM' adC' adM' H' locs' → W p l e room_1 s m #[Value.ref b] below meth c H' locs' cells slots Z (F0 m 880 ls [])) : W p l e room_1 s m #[Value.ref b] below meth c H locs cells slots Z (F0 m 301 ls []) := by
  obtain ⟨hx, hb, -⟩ := id K.1
  have hS := hI.2.2.2.2.2
  refine lv_aload_n hx hb dl_301 rfl (lv_at hl 1 rfl) ?_
  refine lw_arg (k := 1) K hS hl hi (by omega) rfl dl_302 dl_303 dl_304 dl_305 dl_306 ?_
  refine lw_arg (k := 2) K hS hl hi (by omega) rfl dl_307 dl_308 dl_309 dl_310 dl_311 ?_
  refine lw_arg (k := 3) K hS hl hi (by omega) rfl dl_312 dl_313 dl_314 dl_315 dl_316 ?_
  refine lw_two (is := [XI xs (i + 1), XI xs (i + 2), XI xs (i + 3)]) K hI hl hcs oL_Su_mend oL_Mo_mend tw_701 tw_1277 ⟨⟨rfl, rfl⟩, rfl, rfl⟩ rfl (List.forall_mem_cons.mpr ⟨ok32_XI _ _, List.forall_mem_cons.mpr ⟨ok32_XI _ _, List.forall_mem_cons.mpr ⟨ok32_XI _ _, fun _ h => absurd h List.not_mem_nil⟩⟩⟩) (p_mend hI.1.1 hI.1.2.1 hI.1.2.2) dl_317 dl_336 dl_339 rfl (fun H' locs' rest hS kk => ?_) kont
  refine lv_aload_n hx hb dl_320 rfl (lv_at hl 2 rfl) ?_
  refine lw_arg (k := 1) K hS hl hi (by omega) rfl dl_321 dl_322 dl_323 dl_324 dl_325 ?_
  refine lw_arg (k := 2) K hS hl hi (by omega) rfl dl_326 dl_327 dl_328 dl_329 dl_330 ?_
  refine lw_arg (k := 3) K hS hl hi (by omega) rfl dl_331 dl_332 dl_333 dl_334 dl_335 ?_
  exact kk
theorem lc_8 (K : LK p s m meth c b L xs D cA) (hI : LI D cA s a1 a2 σ hC hM adC adM H locs) (hl : LV b a1 a2 i ls) (hi : i + 6 ≤ L) (hcs : cells ≤ 600000 ∧ slots ≤ 7302250) (kont : ∀ (σ' : ST) (hC' hM' : AH) (adC' adM' : Nat → Nat) (H' : Heap) (locs' : List Loc), LI D cA s a1 a2 σ' hC' hM' adC' adM' H' locs' → W p l e room_1 s m #[Value.ref b] below meth c H' locs' cells slots Z (F0 m 880 ls [])) : W p l e room_1 s m #[Value.ref b] below meth c H locs cells slots Z (F0 m 344 ls []) := by
  obtain ⟨hx, hb, -⟩ := id K.1
  have hS := hI.2.2.2.2.2
  refine lv_aload_n hx hb dl_344 rfl (lv_at hl 1 rfl) ?_
  refine lw_arg (k := 1) K hS hl hi (by omega) rfl dl_345 dl_346 dl_347 dl_348 dl_349 ?_
  refine lw_argz (k := 2) K hS hl hi (by omega) rfl dl_350 dl_351 dl_352 dl_353 dl_354 dl_355 dl_358 dl_359 dl_362 ?_
  refine lw_two (is := [XI xs (i + 1), ZI xs (i + 2)]) K hI hl hcs oL_Su_shut oL_Mo_shut tw_708 tw_1282 ⟨⟨rfl, rfl⟩, rfl, rfl⟩ rfl (List.forall_mem_cons.mpr ⟨ok32_XI _ _, List.forall_mem_cons.mpr ⟨ok32_ZI _ _, fun _ h => absurd h List.not_mem_nil⟩⟩) (p_shut hI.1.1 hI.1.2.1 hI.1.2.2 (ZI_01 _ _)) dl_363 dl_385 dl_388 rfl (fun H' locs' rest hS kk => ?_) kont
  refine lv_aload_n hx hb dl_366 rfl (lv_at hl 2 rfl) ?_
  refine lw_arg (k := 1) K hS hl hi (by omega) rfl dl_367 dl_368 dl_369 dl_370 dl_371 ?_
  refine lw_argz (k := 2) K hS hl hi (by omega) rfl dl_372 dl_373 dl_374 dl_375 dl_376 dl_377 dl_380 dl_381 dl_384 ?_
  exact kk
theorem lc_9 (K : LK p s m meth c b L xs D cA) (hI : LI D cA s a1 a2 σ hC hM adC adM H locs) (hl : LV b a1 a2 i ls) (hi : i + 6 ≤ L) (hcs : cells ≤ 600000 ∧ slots ≤ 7302250) (kont : ∀ (σ' : ST) (hC' hM' : AH) (adC' adM' : Nat → Nat) (H' : Heap) (locs' : List Loc), LI D cA s a1 a2 σ' hC' hM' adC' adM' H' locs' → W p l e room_1 s m #[Value.ref b] below meth c H' locs' cells slots Z (F0 m 880 ls [])) : W p l e room_1 s m #[Value.ref b] below meth c H locs cells slots Z (F0 m 393 ls []) := by
  obtain ⟨hx, hb, -⟩ := id K.1
  have hS := hI.2.2.2.2.2
  refine lv_aload_n hx hb dl_393 rfl (lv_at hl 1 rfl) ?_
  refine lw_two (is := []) K hI hl hcs oL_Su_undo oL_Mo_undo tw_722 tw_1289 ⟨⟨rfl, rfl⟩, rfl, rfl⟩ rfl (fun _ h => absurd h List.not_mem_nil) (p_undo hI.1.1 hI.1.2.1 hI.1.2.2) dl_394 dl_398 dl_401 rfl (fun H' locs' rest hS kk => ?_) kont
  refine lv_aload_n hx hb dl_397 rfl (lv_at hl 2 rfl) ?_
  exact kk
theorem lc_10 (K : LK p s m meth c b L xs D cA) (hI : LI D cA s a1 a2 σ hC hM adC adM H locs) (hl : LV b a1 a2 i ls) (hi : i + 6 ≤ L) (hcs : cells ≤ 600000 ∧ slots ≤ 7302250) (kont : ∀ (σ' : ST) (hC' hM' : AH) (adC' adM' : Nat → Nat) (H' : Heap) (locs' : List Loc), LI D cA s a1 a2 σ' hC' hM' adC' adM' H' locs' → W p l e room_1 s m #[Value.ref b] below meth c H' locs' cells slots Z (F0 m 880 ls [])) : W p l e room_1 s m #[Value.ref b] below meth c H locs cells slots Z (F0 m 406 ls []) := by
  obtain ⟨hx, hb, -⟩ := id K.1
  have hS := hI.2.2.2.2.2
  refine lv_aload_n hx hb dl_406 rfl (lv_at hl 1 rfl) ?_
  refine lw_arg (k := 1) K hS hl hi (by omega) rfl dl_407 dl_408 dl_409 dl_410 dl_411 ?_
  refine lw_arg (k := 2) K hS hl hi (by omega) rfl dl_412 dl_413 dl_414 dl_415 dl_416 ?_
  refine lw_two (is := [XI xs (i + 1), XI xs (i + 2)]) K hI hl hcs oL_Su_journey oL_Mo_journey tw_734 tw_1293 ⟨⟨rfl, rfl⟩, rfl, rfl⟩ rfl (List.forall_mem_cons.mpr ⟨ok32_XI _ _, List.forall_mem_cons.mpr ⟨ok32_XI _ _, fun _ h => absurd h List.not_mem_nil⟩⟩) (p_journey hI.1.1 hI.1.2.1 hI.1.2.2) dl_417 dl_431 dl_434 rfl (fun H' locs' rest hS kk => ?_) kont
  refine lv_aload_n hx hb dl_420 rfl (lv_at hl 2 rfl) ?_
  refine lw_arg (k := 1) K hS hl hi (by omega) rfl dl_421 dl_422 dl_423 dl_424 dl_425 ?_
  refine lw_arg (k := 2) K hS hl hi (by omega) rfl dl_426 dl_427 dl_428 dl_429 dl_430 ?_
  exact kk
theorem lc_11 (K : LK p s m meth c b L xs D cA) (hI : LI D cA s a1 a2 σ hC hM adC adM H locs) (hl : LV b a1 a2 i ls) (hi : i + 6 ≤ L) (hcs : cells ≤ 600000 ∧ slots ≤ 7302250) (kont : ∀ (σ' : ST) (hC' hM' : AH) (adC' adM' : Nat → Nat) (H' : Heap) (locs' : List Loc), LI D cA s a1 a2 σ' hC' hM' adC' adM' H' locs' → W p l e room_1 s m #[Value.ref b] below meth c H' locs' cells slots Z (F0 m 880 ls [])) : W p l e room_1 s m #[Value.ref b] below meth c H locs cells slots Z (F0 m 439 ls []) := by
  obtain ⟨hx, hb, -⟩ := id K.1
  have hS := hI.2.2.2.2.2
  refine lv_aload_n hx hb dl_439 rfl (lv_at hl 1 rfl) ?_
  refine lw_arg (k := 1) K hS hl hi (by omega) rfl dl_440 dl_441 dl_442 dl_443 dl_444 ?_
  refine lw_arg (k := 2) K hS hl hi (by omega) rfl dl_445 dl_446 dl_447 dl_448 dl_449 ?_
  refine lw_two (is := [XI xs (i + 1), XI xs (i + 2)]) K hI hl hcs oL_Su_most oL_Mo_most tw_756 tw_1301 ⟨⟨rfl, rfl⟩, rfl, rfl⟩ rfl (List.forall_mem_cons.mpr ⟨ok32_XI _ _, List.forall_mem_cons.mpr ⟨ok32_XI _ _, fun _ h => absurd h List.not_mem_nil⟩⟩) (p_most hI.1.1 hI.1.2.1 hI.1.2.2) dl_450 dl_464 dl_467 rfl (fun H' locs' rest hS kk => ?_) kont
  refine lv_aload_n hx hb dl_453 rfl (lv_at hl 2 rfl) ?_
  refine lw_arg (k := 1) K hS hl hi (by omega) rfl dl_454 dl_455 dl_456 dl_457 dl_458 ?_
  refine lw_arg (k := 2) K hS hl hi (by omega) rfl dl_459 dl_460 dl_461 dl_462 dl_463 ?_
  exact kk
theorem lc_12 (K : LK p s m meth c b L xs D cA) (hI : LI D cA s a1 a2 σ hC hM adC adM H locs) (hl : LV b a1 a2 i ls) (hi : i + 6 ≤ L) (hcs : cells ≤ 600000 ∧ slots ≤ 7302250) (kont : ∀ (σ' : ST) (hC' hM' : AH) (adC' adM' : Nat → Nat) (H' : Heap) (locs' : List Loc), LI D cA s a1 a2 σ' hC' hM' adC' adM' H' locs' → W p l e room_1 s m #[Value.ref b] below meth c H' locs' cells slots Z (F0 m 880 ls [])) : W p l e room_1 s m #[Value.ref b] below meth c H locs cells slots Z (F0 m 472 ls []) := by
  obtain ⟨hx, hb, -⟩ := id K.1
  have hS := hI.2.2.2.2.2
  refine lv_aload_n hx hb dl_472 rfl (lv_at hl 1 rfl) ?_
  refine lw_arg (k := 1) K hS hl hi (by omega) rfl dl_473 dl_474 dl_475 dl_476 dl_477 ?_
  refine lw_two (is := [XI xs (i + 1)]) K hI hl hcs oL_Su_round oL_Mo_round tw_797 tw_1306 ⟨⟨rfl, rfl⟩, rfl, rfl⟩ rfl (List.forall_mem_cons.mpr ⟨ok32_XI _ _, fun _ h => absurd h List.not_mem_nil⟩) (p_round hI.1.1 hI.1.2.1 hI.1.2.2) dl_478 dl_487 dl_490 rfl (fun H' locs' rest hS kk => ?_) kont
  refine lv_aload_n hx hb dl_481 rfl (lv_at hl 2 rfl) ?_
  refine lw_arg (k := 1) K hS hl hi (by omega) rfl dl_482 dl_483 dl_484 dl_485 dl_486 ?_
  exact kk
theorem lc_13 (K : LK p s m meth c b L xs D cA) (hI : LI D cA s a1 a2 σ hC hM adC adM H locs) (hl : LV b a1 a2 i ls) (hi : i + 6 ≤ L) (hcs : cells ≤ 600000 ∧ slots ≤ 7302250) (kont : ∀ (σ' : ST) (hC' hM' : AH) (adC' adM' : Nat → Nat) (H' : Heap) (locs' : List Loc), LI D cA s a1 a2 σ' hC' hM' adC' adM' H' locs' → W p l e room_1 s m #[Value.ref b] below meth c H' locs' cells slots Z (F0 m 880 ls [])) : W p l e room_1 s m #[Value.ref b] below meth c H locs cells slots Z (F0 m 495 ls []) := by
  obtain ⟨hx, hb, -⟩ := id K.1
  have hS := hI.2.2.2.2.2
  refine lv_aload_n hx hb dl_495 rfl (lv_at hl 1 rfl) ?_
  refine lw_two (is := []) K hI hl hcs oL_Su_agree oL_Mo_agree tw_828 tw_1314 ⟨⟨rfl, rfl⟩, rfl, rfl⟩ rfl (fun _ h => absurd h List.not_mem_nil) (p_agree hI.1.1 hI.1.2.1 hI.1.2.2) dl_496 dl_500 dl_503 rfl (fun H' locs' rest hS kk => ?_) kont
  refine lv_aload_n hx hb dl_499 rfl (lv_at hl 2 rfl) ?_
  exact kk
theorem lc_14 (K : LK p s m meth c b L xs D cA) (hI : LI D cA s a1 a2 σ hC hM adC adM H locs) (hl : LV b a1 a2 i ls) (hi : i + 6 ≤ L) (hcs : cells ≤ 600000 ∧ slots ≤ 7302250) (kont : ∀ (σ' : ST) (hC' hM' : AH) (adC' adM' : Nat → Nat) (H' : Heap) (locs' : List Loc), LI D cA s a1 a2 σ' hC' hM' adC' adM' H' locs' → W p l e room_1 s m #[Value.ref b] below meth c H' locs' cells slots Z (F0 m 880 ls [])) : W p l e room_1 s m #[Value.ref b] below meth c H locs cells slots Z (F0 m 508 ls []) := by
  obtain ⟨hx, hb, -⟩ := id K.1
  have hS := hI.2.2.2.2.2
  refine lv_aload_n hx hb dl_508 rfl (lv_at hl 1 rfl) ?_
  refine lw_arg (k := 1) K hS hl hi (by omega) rfl dl_509 dl_510 dl_511 dl_512 dl_513 ?_
  refine lw_two (is := [XI xs (i + 1)]) K hI hl hcs oL_Su_height oL_Mo_height tw_872 tw_1330 ⟨⟨rfl, rfl⟩, rfl, rfl⟩ rfl (List.forall_mem_cons.mpr ⟨ok32_XI _ _, fun _ h => absurd h List.not_mem_nil⟩) (p_height hI.1.1 hI.1.2.1 hI.1.2.2) dl_514 dl_523 dl_526 rfl (fun H' locs' rest hS kk => ?_) kont
  refine lv_aload_n hx hb dl_517 rfl (lv_at hl 2 rfl) ?_
  refine lw_arg (k := 1) K hS hl hi (by omega) rfl dl_518 dl_519 dl_520 dl_521 dl_522 ?_
  exact kk
theorem lc_15 (K : LK p s m meth c b L xs D cA) (hI : LI D cA s a1 a2 σ hC hM adC adM H locs) (hl : LV b a1 a2 i ls) (hi : i + 6 ≤ L) (hcs : cells ≤ 600000 ∧ slots ≤ 7302250) (kont : ∀ (σ' : ST) (hC' hM' : AH) (adC' adM' : Nat → Nat) (H' : Heap) (locs' : List Loc), LI D cA s a1 a2 σ' hC' hM' adC' adM' H' locs' → W p l e room_1 s m #[Value.ref b] below meth c H' locs' cells slots Z (F0 m 880 ls [])) : W p l e room_1 s m #[Value.ref b] below meth c H locs cells slots Z (F0 m 531 ls []) := by
  obtain ⟨hx, hb, -⟩ := id K.1
  have hS := hI.2.2.2.2.2
  refine lv_aload_n hx hb dl_531 rfl (lv_at hl 1 rfl) ?_
  refine lw_arg (k := 1) K hS hl hi (by omega) rfl dl_532 dl_533 dl_534 dl_535 dl_536 ?_
  refine lw_two (is := [XI xs (i + 1)]) K hI hl hcs oL_Su_ring oL_Mo_ring tw_878 tw_1338 ⟨⟨rfl, rfl⟩, rfl, rfl⟩ rfl (List.forall_mem_cons.mpr ⟨ok32_XI _ _, fun _ h => absurd h List.not_mem_nil⟩) (p_ring hI.1.1 hI.1.2.1 hI.1.2.2) dl_537 dl_546 dl_549 rfl (fun H' locs' rest hS kk => ?_) kont
  refine lv_aload_n hx hb dl_540 rfl (lv_at hl 2 rfl) ?_
  refine lw_arg (k := 1) K hS hl hi (by omega) rfl dl_541 dl_542 dl_543 dl_544 dl_545 ?_
  exact kk
theorem lc_16 (K : LK p s m meth c b L xs D cA) (hI : LI D cA s a1 a2 σ hC hM adC adM H locs) (hl : LV b a1 a2 i ls) (hi : i + 6 ≤ L) (hcs : cells ≤ 600000 ∧ slots ≤ 7302250) (kont : ∀ (σ' : ST) (hC' hM' : AH) (adC' adM' : Nat → Nat) (H' : Heap) (locs' : List Loc), LI D cA s a1 a2 σ' hC' hM' adC' adM' H' locs' → W p l e room_1 s m #[Value.ref b] below meth c H' locs' cells slots Z (F0 m 880 ls [])) : W p l e room_1 s m #[Value.ref b] below meth c H locs cells slots Z (F0 m 554 ls []) := by
  obtain ⟨hx, hb, -⟩ := id K.1
  have hS := hI.2.2.2.2.2
  refine lv_aload_n hx hb dl_554 rfl (lv_at hl 1 rfl) ?_
  refine lw_two (is := []) K hI hl hcs oL_Su_fewest oL_Mo_fewest tw_913 tw_1352 ⟨⟨rfl, rfl⟩, rfl, rfl⟩ rfl (fun _ h => absurd h List.not_mem_nil) (p_fewest hI.1.1 hI.1.2.1 hI.1.2.2) dl_555 dl_559 dl_562 rfl (fun H' locs' rest hS kk => ?_) kont
  refine lv_aload_n hx hb dl_558 rfl (lv_at hl 2 rfl) ?_
  exact kk
theorem lc_17 (K : LK p s m meth c b L xs D cA) (hI : LI D cA s a1 a2 σ hC hM adC adM H locs) (hl : LV b a1 a2 i ls) (hi : i + 6 ≤ L) (hcs : cells ≤ 600000 ∧ slots ≤ 7302250) (kont : ∀ (σ' : ST) (hC' hM' : AH) (adC' adM' : Nat → Nat) (H' : Heap) (locs' : List Loc), LI D cA s a1 a2 σ' hC' hM' adC' adM' H' locs' → W p l e room_1 s m #[Value.ref b] below meth c H' locs' cells slots Z (F0 m 880 ls [])) : W p l e room_1 s m #[Value.ref b] below meth c H locs cells slots Z (F0 m 567 ls []) := by
  obtain ⟨hx, hb, -⟩ := id K.1
  have hS := hI.2.2.2.2.2
  refine lv_aload_n hx hb dl_567 rfl (lv_at hl 1 rfl) ?_
  refine lw_arg (k := 1) K hS hl hi (by omega) rfl dl_568 dl_569 dl_570 dl_571 dl_572 ?_
  refine lw_arg (k := 2) K hS hl hi (by omega) rfl dl_573 dl_574 dl_575 dl_576 dl_577 ?_
  refine lw_two (is := [XI xs (i + 1), XI xs (i + 2)]) K hI hl hcs oL_Su_third oL_Mo_third tw_926 tw_1356 ⟨⟨rfl, rfl⟩, rfl, rfl⟩ rfl (List.forall_mem_cons.mpr ⟨ok32_XI _ _, List.forall_mem_cons.mpr ⟨ok32_XI _ _, fun _ h => absurd h List.not_mem_nil⟩⟩) (p_third hI.1.1 hI.1.2.1 hI.1.2.2) dl_578 dl_592 dl_595 rfl (fun H' locs' rest hS kk => ?_) kont
  refine lv_aload_n hx hb dl_581 rfl (lv_at hl 2 rfl) ?_
  refine lw_arg (k := 1) K hS hl hi (by omega) rfl dl_582 dl_583 dl_584 dl_585 dl_586 ?_
  refine lw_arg (k := 2) K hS hl hi (by omega) rfl dl_587 dl_588 dl_589 dl_590 dl_591 ?_
  exact kk
theorem lc_18 (K : LK p s m meth c b L xs D cA) (hI : LI D cA s a1 a2 σ hC hM adC adM H locs) (hl : LV b a1 a2 i ls) (hi : i + 6 ≤ L) (hcs : cells ≤ 600000 ∧ slots ≤ 7302250) (kont : ∀ (σ' : ST) (hC' hM' : AH) (adC' adM' : Nat → Nat) (H' : Heap) (locs' : List Loc), LI D cA s a1 a2 σ' hC' hM' adC' adM' H' locs' → W p l e room_1 s m #[Value.ref b] below meth c H' locs' cells slots Z (F0 m 880 ls [])) : W p l e room_1 s m #[Value.ref b] below meth c H locs cells slots Z (F0 m 600 ls []) := by
  obtain ⟨hx, hb, -⟩ := id K.1
  have hS := hI.2.2.2.2.2
  refine lv_aload_n hx hb dl_600 rfl (lv_at hl 1 rfl) ?_
  refine lw_arg (k := 1) K hS hl hi (by omega) rfl dl_601 dl_602 dl_603 dl_604 dl_605 ?_
  refine lw_arg (k := 2) K hS hl hi (by omega) rfl dl_606 dl_607 dl_608 dl_609 dl_610 ?_
  refine lw_arg (k := 3) K hS hl hi (by omega) rfl dl_611 dl_612 dl_613 dl_614 dl_615 ?_
  refine lw_arg (k := 4) K hS hl hi (by omega) rfl dl_616 dl_617 dl_618 dl_619 dl_620 ?_
  refine lw_arg (k := 5) K hS hl hi (by omega) rfl dl_621 dl_622 dl_623 dl_624 dl_625 ?_
  refine lw_two (is := [XI xs (i + 1), XI xs (i + 2), XI xs (i + 3), XI xs (i + 4), XI xs (i + 5)]) K hI hl hcs oL_Su_tell oL_Mo_tell tw_934 tw_1360 ⟨⟨rfl, rfl⟩, rfl, rfl⟩ rfl (List.forall_mem_cons.mpr ⟨ok32_XI _ _, List.forall_mem_cons.mpr ⟨ok32_XI _ _, List.forall_mem_cons.mpr ⟨ok32_XI _ _, List.forall_mem_cons.mpr ⟨ok32_XI _ _, List.forall_mem_cons.mpr ⟨ok32_XI _ _, fun _ h => absurd h List.not_mem_nil⟩⟩⟩⟩⟩) (p_tell hI.1.1 hI.1.2.1 hI.1.2.2) dl_626 dl_655 dl_658 rfl (fun H' locs' rest hS kk => ?_) kont
  refine lv_aload_n hx hb dl_629 rfl (lv_at hl 2 rfl) ?_
  refine lw_arg (k := 1) K hS hl hi (by omega) rfl dl_630 dl_631 dl_632 dl_633 dl_634 ?_
  refine lw_arg (k := 2) K hS hl hi (by omega) rfl dl_635 dl_636 dl_637 dl_638 dl_639 ?_
  refine lw_arg (k := 3) K hS hl hi (by omega) rfl dl_640 dl_641 dl_642 dl_643 dl_644 ?_
  refine lw_arg (k := 4) K hS hl hi (by omega) rfl dl_645 dl_646 dl_647 dl_648 dl_649 ?_
  refine lw_arg (k := 5) K hS hl hi (by omega) rfl dl_650 dl_651 dl_652 dl_653 dl_654 ?_
  exact kk
theorem lc_19 (K : LK p s m meth c b L xs D cA) (hI : LI D cA s a1 a2 σ hC hM adC adM H locs) (hl : LV b a1 a2 i ls) (hi : i + 6 ≤ L) (hcs : cells ≤ 600000 ∧ slots ≤ 7302250) (kont : ∀ (σ' : ST) (hC' hM' : AH) (adC' adM' : Nat → Nat) (H' : Heap) (locs' : List Loc), LI D cA s a1 a2 σ' hC' hM' adC' adM' H' locs' → W p l e room_1 s m #[Value.ref b] below meth c H' locs' cells slots Z (F0 m 880 ls [])) : W p l e room_1 s m #[Value.ref b] below meth c H locs cells slots Z (F0 m 663 ls []) := by
  obtain ⟨hx, hb, -⟩ := id K.1
  have hS := hI.2.2.2.2.2
  refine lv_aload_n hx hb dl_663 rfl (lv_at hl 1 rfl) ?_
  refine lw_two (is := []) K hI hl hcs oL_Su_forget oL_Mo_forget tw_951 tw_1365 ⟨⟨rfl, rfl⟩, rfl, rfl⟩ rfl (fun _ h => absurd h List.not_mem_nil) (p_forget hI.1.1 hI.1.2.1 hI.1.2.2) dl_664 dl_668 dl_671 rfl (fun H' locs' rest hS kk => ?_) kont
  refine lv_aload_n hx hb dl_667 rfl (lv_at hl 2 rfl) ?_
  exact kk
theorem lc_20 (K : LK p s m meth c b L xs D cA) (hI : LI D cA s a1 a2 σ hC hM adC adM H locs) (hl : LV b a1 a2 i ls) (hi : i + 6 ≤ L) (hcs : cells ≤ 600000 ∧ slots ≤ 7302250) (kont : ∀ (σ' : ST) (hC' hM' : AH) (adC' adM' : Nat → Nat) (H' : Heap) (locs' : List Loc), LI D cA s a1 a2 σ' hC' hM' adC' adM' H' locs' → W p l e room_1 s m #[Value.ref b] below meth c H' locs' cells slots Z (F0 m 880 ls [])) : W p l e room_1 s m #[Value.ref b] below meth c H locs cells slots Z (F0 m 676 ls []) := by
  obtain ⟨hx, hb, -⟩ := id K.1
  have hS := hI.2.2.2.2.2
  refine lv_aload_n hx hb dl_676 rfl (lv_at hl 1 rfl) ?_
  refine lw_two (is := []) K hI hl hcs oL_Su_wrong oL_Mo_wrong tw_955 tw_1369 ⟨⟨rfl, rfl⟩, rfl, rfl⟩ rfl (fun _ h => absurd h List.not_mem_nil) (p_wrong hI.1.1 hI.1.2.1 hI.1.2.2) dl_677 dl_681 dl_684 rfl (fun H' locs' rest hS kk => ?_) kont
  refine lv_aload_n hx hb dl_680 rfl (lv_at hl 2 rfl) ?_
  exact kk
theorem lc_21 (K : LK p s m meth c b L xs D cA) (hI : LI D cA s a1 a2 σ hC hM adC adM H locs) (hl : LV b a1 a2 i ls) (hi : i + 6 ≤ L) (hcs : cells ≤ 600000 ∧ slots ≤ 7302250) (kont : ∀ (σ' : ST) (hC' hM' : AH) (adC' adM' : Nat → Nat) (H' : Heap) (locs' : List Loc), LI D cA s a1 a2 σ' hC' hM' adC' adM' H' locs' → W p l e room_1 s m #[Value.ref b] below meth c H' locs' cells slots Z (F0 m 880 ls [])) : W p l e room_1 s m #[Value.ref b] below meth c H locs cells slots Z (F0 m 689 ls []) := by
  obtain ⟨hx, hb, -⟩ := id K.1
  have hS := hI.2.2.2.2.2
  refine lv_aload_n hx hb dl_689 rfl (lv_at hl 1 rfl) ?_
  refine lw_arg (k := 1) K hS hl hi (by omega) rfl dl_690 dl_691 dl_692 dl_693 dl_694 ?_
  refine lw_two (is := [XI xs (i + 1)]) K hI hl hcs oL_Su_walk oL_Mo_walk tw_988 tw_1385 ⟨⟨rfl, rfl⟩, rfl, rfl⟩ rfl (List.forall_mem_cons.mpr ⟨ok32_XI _ _, fun _ h => absurd h List.not_mem_nil⟩) (p_walk hI.1.1 hI.1.2.1 hI.1.2.2) dl_695 dl_704 dl_707 rfl (fun H' locs' rest hS kk => ?_) kont
  refine lv_aload_n hx hb dl_698 rfl (lv_at hl 2 rfl) ?_
  refine lw_arg (k := 1) K hS hl hi (by omega) rfl dl_699 dl_700 dl_701 dl_702 dl_703 ?_
  exact kk
theorem lc_22 (K : LK p s m meth c b L xs D cA) (hI : LI D cA s a1 a2 σ hC hM adC adM H locs) (hl : LV b a1 a2 i ls) (hi : i + 6 ≤ L) (hcs : cells ≤ 600000 ∧ slots ≤ 7302250) (kont : ∀ (σ' : ST) (hC' hM' : AH) (adC' adM' : Nat → Nat) (H' : Heap) (locs' : List Loc), LI D cA s a1 a2 σ' hC' hM' adC' adM' H' locs' → W p l e room_1 s m #[Value.ref b] below meth c H' locs' cells slots Z (F0 m 880 ls [])) : W p l e room_1 s m #[Value.ref b] below meth c H locs cells slots Z (F0 m 712 ls []) := by
  obtain ⟨hx, hb, -⟩ := id K.1
  have hS := hI.2.2.2.2.2
  refine lv_aload_n hx hb dl_712 rfl (lv_at hl 1 rfl) ?_
  refine lw_arg (k := 1) K hS hl hi (by omega) rfl dl_713 dl_714 dl_715 dl_716 dl_717 ?_
  refine lw_two (is := [XI xs (i + 1)]) K hI hl hcs oL_Su_byTurns oL_Mo_byTurns tw_1002 tw_1393 ⟨⟨rfl, rfl⟩, rfl, rfl⟩ rfl (List.forall_mem_cons.mpr ⟨ok32_XI _ _, fun _ h => absurd h List.not_mem_nil⟩) (p_byTurns hI.1.1 hI.1.2.1 hI.1.2.2) dl_718 dl_727 dl_730 rfl (fun H' locs' rest hS kk => ?_) kont
  refine lv_aload_n hx hb dl_721 rfl (lv_at hl 2 rfl) ?_
  refine lw_arg (k := 1) K hS hl hi (by omega) rfl dl_722 dl_723 dl_724 dl_725 dl_726 ?_
  exact kk
theorem lc_23 (K : LK p s m meth c b L xs D cA) (hI : LI D cA s a1 a2 σ hC hM adC adM H locs) (hl : LV b a1 a2 i ls) (hi : i + 6 ≤ L) (hcs : cells ≤ 600000 ∧ slots ≤ 7302250) (kont : ∀ (σ' : ST) (hC' hM' : AH) (adC' adM' : Nat → Nat) (H' : Heap) (locs' : List Loc), LI D cA s a1 a2 σ' hC' hM' adC' adM' H' locs' → W p l e room_1 s m #[Value.ref b] below meth c H' locs' cells slots Z (F0 m 880 ls [])) : W p l e room_1 s m #[Value.ref b] below meth c H locs cells slots Z (F0 m 735 ls []) := by
  obtain ⟨hx, hb, -⟩ := id K.1
  have hS := hI.2.2.2.2.2
  refine lv_aload_n hx hb dl_735 rfl (lv_at hl 1 rfl) ?_
  refine lw_arg (k := 1) K hS hl hi (by omega) rfl dl_736 dl_737 dl_738 dl_739 dl_740 ?_
  refine lw_arg (k := 2) K hS hl hi (by omega) rfl dl_741 dl_742 dl_743 dl_744 dl_745 ?_
  refine lw_arg (k := 3) K hS hl hi (by omega) rfl dl_746 dl_747 dl_748 dl_749 dl_750 ?_
  refine lw_arg (k := 4) K hS hl hi (by omega) rfl dl_751 dl_752 dl_753 dl_754 dl_755 ?_
  refine lw_two (is := [XI xs (i + 1), XI xs (i + 2), XI xs (i + 3), XI xs (i + 4)]) K hI hl hcs oL_Su_weather oL_Mo_weather tw_1006 tw_1397 ⟨⟨rfl, rfl⟩, rfl, rfl⟩ rfl (List.forall_mem_cons.mpr ⟨ok32_XI _ _, List.forall_mem_cons.mpr ⟨ok32_XI _ _, List.forall_mem_cons.mpr ⟨ok32_XI _ _, List.forall_mem_cons.mpr ⟨ok32_XI _ _, fun _ h => absurd h List.not_mem_nil⟩⟩⟩⟩) (p_weather hI.1.1 hI.1.2.1 hI.1.2.2) dl_756 dl_780 dl_783 rfl (fun H' locs' rest hS kk => ?_) kont
  refine lv_aload_n hx hb dl_759 rfl (lv_at hl 2 rfl) ?_
  refine lw_arg (k := 1) K hS hl hi (by omega) rfl dl_760 dl_761 dl_762 dl_763 dl_764 ?_
  refine lw_arg (k := 2) K hS hl hi (by omega) rfl dl_765 dl_766 dl_767 dl_768 dl_769 ?_
  refine lw_arg (k := 3) K hS hl hi (by omega) rfl dl_770 dl_771 dl_772 dl_773 dl_774 ?_
  refine lw_arg (k := 4) K hS hl hi (by omega) rfl dl_775 dl_776 dl_777 dl_778 dl_779 ?_
  exact kk
theorem lc_24 (K : LK p s m meth c b L xs D cA) (hI : LI D cA s a1 a2 σ hC hM adC adM H locs) (hl : LV b a1 a2 i ls) (hi : i + 6 ≤ L) (hcs : cells ≤ 600000 ∧ slots ≤ 7302250) (kont : ∀ (σ' : ST) (hC' hM' : AH) (adC' adM' : Nat → Nat) (H' : Heap) (locs' : List Loc), LI D cA s a1 a2 σ' hC' hM' adC' adM' H' locs' → W p l e room_1 s m #[Value.ref b] below meth c H' locs' cells slots Z (F0 m 880 ls [])) : W p l e room_1 s m #[Value.ref b] below meth c H locs cells slots Z (F0 m 788 ls []) := by
  obtain ⟨hx, hb, -⟩ := id K.1
  have hS := hI.2.2.2.2.2
  refine lv_aload_n hx hb dl_788 rfl (lv_at hl 1 rfl) ?_
  refine lw_arg (k := 1) K hS hl hi (by omega) rfl dl_789 dl_790 dl_791 dl_792 dl_793 ?_
  refine lw_arg (k := 2) K hS hl hi (by omega) rfl dl_794 dl_795 dl_796 dl_797 dl_798 ?_
  refine lw_arg (k := 3) K hS hl hi (by omega) rfl dl_799 dl_800 dl_801 dl_802 dl_803 ?_
  refine lw_two (is := [XI xs (i + 1), XI xs (i + 2), XI xs (i + 3)]) K hI hl hcs oL_Su_year oL_Mo_year tw_1035 tw_1406 ⟨⟨rfl, rfl⟩, rfl, rfl⟩ rfl (List.forall_mem_cons.mpr ⟨ok32_XI _ _, List.forall_mem_cons.mpr ⟨ok32_XI _ _, List.forall_mem_cons.mpr ⟨ok32_XI _ _, fun _ h => absurd h List.not_mem_nil⟩⟩⟩) (p_year hI.1.1 hI.1.2.1 hI.1.2.2) dl_804 dl_823 dl_826 rfl (fun H' locs' rest hS kk => ?_) kont
  refine lv_aload_n hx hb dl_807 rfl (lv_at hl 2 rfl) ?_
  refine lw_arg (k := 1) K hS hl hi (by omega) rfl dl_808 dl_809 dl_810 dl_811 dl_812 ?_
  refine lw_arg (k := 2) K hS hl hi (by omega) rfl dl_813 dl_814 dl_815 dl_816 dl_817 ?_
  refine lw_arg (k := 3) K hS hl hi (by omega) rfl dl_818 dl_819 dl_820 dl_821 dl_822 ?_
  exact kk
theorem lc_25 (K : LK p s m meth c b L xs D cA) (hI : LI D cA s a1 a2 σ hC hM adC adM H locs) (hl : LV b a1 a2 i ls) (hi : i + 6 ≤ L) (hcs : cells ≤ 600000 ∧ slots ≤ 7302250) (kont : ∀ (σ' : ST) (hC' hM' : AH) (adC' adM' : Nat → Nat) (H' : Heap) (locs' : List Loc), LI D cA s a1 a2 σ' hC' hM' adC' adM' H' locs' → W p l e room_1 s m #[Value.ref b] below meth c H' locs' cells slots Z (F0 m 880 ls [])) : W p l e room_1 s m #[Value.ref b] below meth c H locs cells slots Z (F0 m 831 ls []) := by
  obtain ⟨hx, hb, -⟩ := id K.1
  have hS := hI.2.2.2.2.2
  refine lv_aload_n hx hb dl_831 rfl (lv_at hl 1 rfl) ?_
  refine lw_two (is := []) K hI hl hcs oL_Su_keep oL_Mo_keep tw_1051 tw_1415 ⟨⟨rfl, rfl⟩, rfl, rfl⟩ rfl (fun _ h => absurd h List.not_mem_nil) (p_keep hI.1.1 hI.1.2.1 hI.1.2.2) dl_832 dl_836 dl_839 rfl (fun H' locs' rest hS kk => ?_) kont
  refine lv_aload_n hx hb dl_835 rfl (lv_at hl 2 rfl) ?_
  exact kk
theorem lc_26 (K : LK p s m meth c b L xs D cA) (hI : LI D cA s a1 a2 σ hC hM adC adM H locs) (hl : LV b a1 a2 i ls) (hi : i + 6 ≤ L) (hcs : cells ≤ 600000 ∧ slots ≤ 7302250) (kont : ∀ (σ' : ST) (hC' hM' : AH) (adC' adM' : Nat → Nat) (H' : Heap) (locs' : List Loc), LI D cA s a1 a2 σ' hC' hM' adC' adM' H' locs' → W p l e room_1 s m #[Value.ref b] below meth c H' locs' cells slots Z (F0 m 880 ls [])) : W p l e room_1 s m #[Value.ref b] below meth c H locs cells slots Z (F0 m 844 ls []) := by
  obtain ⟨hx, hb, -⟩ := id K.1
  have hS := hI.2.2.2.2.2
  refine lv_aload_n hx hb dl_844 rfl (lv_at hl 1 rfl) ?_
  refine lw_two (is := []) K hI hl hcs oL_Su_back oL_Mo_back tw_1056 tw_1419 ⟨⟨rfl, rfl⟩, rfl, rfl⟩ rfl (fun _ h => absurd h List.not_mem_nil) (p_back hI.1.1 hI.1.2.1 hI.1.2.2) dl_845 dl_849 dl_852 rfl (fun H' locs' rest hS kk => ?_) kont
  refine lv_aload_n hx hb dl_848 rfl (lv_at hl 2 rfl) ?_
  exact kk
theorem lc_27 (K : LK p s m meth c b L xs D cA) (hI : LI D cA s a1 a2 σ hC hM adC adM H locs) (hl : LV b a1 a2 i ls) (hi : i + 6 ≤ L) (hcs : cells ≤ 600000 ∧ slots ≤ 7302250) (kont : ∀ (σ' : ST) (hC' hM' : AH) (adC' adM' : Nat → Nat) (H' : Heap) (locs' : List Loc), LI D cA s a1 a2 σ' hC' hM' adC' adM' H' locs' → W p l e room_1 s m #[Value.ref b] below meth c H' locs' cells slots Z (F0 m 880 ls [])) : W p l e room_1 s m #[Value.ref b] below meth c H locs cells slots Z (F0 m 857 ls []) := by
  obtain ⟨hx, hb, -⟩ := id K.1
  have hS := hI.2.2.2.2.2
  refine lv_aload_n hx hb dl_857 rfl (lv_at hl 1 rfl) ?_
  refine lw_arg (k := 1) K hS hl hi (by omega) rfl dl_858 dl_859 dl_860 dl_861 dl_862 ?_
  refine lw_two (is := [XI xs (i + 1)]) K hI hl hcs oL_Su_count oL_Mo_count tw_1060 tw_1423 ⟨⟨rfl, rfl⟩, rfl, rfl⟩ rfl (List.forall_mem_cons.mpr ⟨ok32_XI _ _, fun _ h => absurd h List.not_mem_nil⟩) (p_count hI.1.1 hI.1.2.1 hI.1.2.2) dl_863 dl_872 dl_875 rfl (fun H' locs' rest hS kk => ?_) kont
  refine lv_aload_n hx hb dl_866 rfl (lv_at hl 2 rfl) ?_
  refine lw_arg (k := 1) K hS hl hi (by omega) rfl dl_867 dl_868 dl_869 dl_870 dl_871 ?_
  exact kk
end LAWC
