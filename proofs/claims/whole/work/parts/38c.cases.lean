/-! ===== the law: its cases ===== -/
section LAWC0
variable {p : Program} {l : Launch} {e : Env} {s : State} {m : MethodId} {below : List Frame} {meth : Method} {c : Code} {b L : Nat} {xs : Nat → Int32} {Q : State → Prop} {X Y : Cx} {D : va_G} {H : Heap} {locs : List Jvm.Loc} {ls : Array Slot} {i n : Nat} {w : Bool} {hx hm : Hp}
theorem lc_feed (B : LB p s m c b L xs) (hi : i + 4 ≤ L ∧ L ≤ 256) (hn : 1100 ≤ n) (st : LSt s D X Y H locs w hx hm) (hl : lv_has ls 4 (LL b X Y i)) (kk : ∀ (w : Bool) (hx hm : Hp) (H : Heap) (locs : List Jvm.Loc), LSt s D X Y H locs w hx hm → W p l e room_1 s m #[Value.ref b] below meth c H locs 58 2078 Q (F0 m 1223 ls [])) : W p l e room_1 s m #[Value.ref b] below meth c H locs 58 2078 Q (F0 m 204 ls []) := by
  obtain ⟨w1, w2, dj, iv⟩ := st
  obtain ⟨o, hx2, hm2, e1, e2, iv2⟩ := sim_feed (n := n) iv (xs (i + 1))
  refine lv_aload_n B.1 B.2.1 dL_law_204 rfl (lv_at hl 1 rfl) ?_
  refine la_arg 1 B w1.2.2.2.1 hl hi (by decide) dL_law_205 dL_law_206 dL_law_207 dL_law_208 dL_law_209 ?_
  refine la_call (As := [.int (xs (i + 1))]) (n := 1) (st := []) (v := o) (h' := hx2) (r' := RX w) B w1 w2 dj (kX5_feed (wfx w) rfl e1) gL_law_X5_feed rfl ⟨rfl, rfl⟩ ⟨rfl, hdX5_feed⟩ ⟨Nat.le_of_ble_eq_true rfl, Nat.le_of_ble_eq_true rfl⟩ cf5 rfl rfl rfl hl.1 rfl (Nat.le_of_ble_eq_true rfl) dL_law_210 (fun H1 locs1 w1 w2 => ?_)
  refine lv_aload_n B.1 B.2.1 dL_law_213 rfl (lv_at hl 2 rfl) ?_
  refine la_arg 1 B w1.2.2.2.1 hl hi (by decide) dL_law_214 dL_law_215 dL_law_216 dL_law_217 dL_law_218 ?_
  refine la_call (As := [.int (xs (i + 1))]) (n := 1) (st := [.int o]) (v := o) (h' := hm2) (r' := RM) B w2 w1 dj.sy (kX6_feed wfm rfl e2) gL_law_X6_feed rfl ⟨rfl, rfl⟩ ⟨rfl, hdX6_feed⟩ ⟨Nat.le_of_ble_eq_true rfl, Nat.le_of_ble_eq_true rfl⟩ cf6 rfl rfl rfl hl.1 rfl (Nat.le_of_ble_eq_true rfl) dL_law_219 (fun H2 locs2 w2 w1 => ?_)
  refine la_eq B dL_law_222 (by decide) ?_
  exact kk w hx2 hm2 H2 locs2 ⟨w1, w2, dj, iv2⟩
theorem lc_sea (B : LB p s m c b L xs) (hi : i + 4 ≤ L ∧ L ≤ 256) (hn : 1100 ≤ n) (st : LSt s D X Y H locs w hx hm) (hl : lv_has ls 4 (LL b X Y i)) (kk : ∀ (w : Bool) (hx hm : Hp) (H : Heap) (locs : List Jvm.Loc), LSt s D X Y H locs w hx hm → W p l e room_1 s m #[Value.ref b] below meth c H locs 58 2078 Q (F0 m 1223 ls [])) : W p l e room_1 s m #[Value.ref b] below meth c H locs 58 2078 Q (F0 m 227 ls []) := by
  obtain ⟨w1, w2, dj, iv⟩ := st
  obtain ⟨o, hx2, hm2, v2, e1, e2, iv2⟩ := sim_sea (n := n) iv (Nat.le_trans (by decide) hn)
  refine lv_aload_n B.1 B.2.1 dL_law_227 rfl (lv_at hl 1 rfl) ?_
  refine la_call (As := []) (n := 0) (st := []) (v := o) (h' := hx2) (r' := RX v2) B w1 w2 dj (kX5_sea (wfx w) rfl e1) gL_law_X5_sea rfl ⟨rfl, rfl⟩ ⟨rfl, hdX5_sea⟩ ⟨Nat.le_of_ble_eq_true rfl, Nat.le_of_ble_eq_true rfl⟩ cf5 rfl rfl rfl hl.1 rfl (Nat.le_of_ble_eq_true rfl) dL_law_228 (fun H1 locs1 w1 w2 => ?_)
  refine lv_aload_n B.1 B.2.1 dL_law_231 rfl (lv_at hl 2 rfl) ?_
  refine la_call (As := []) (n := 0) (st := [.int o]) (v := o) (h' := hm2) (r' := RM) B w2 w1 dj.sy (kX6_sea wfm rfl e2) gL_law_X6_sea rfl ⟨rfl, rfl⟩ ⟨rfl, hdX6_sea⟩ ⟨Nat.le_of_ble_eq_true rfl, Nat.le_of_ble_eq_true rfl⟩ cf6 rfl rfl rfl hl.1 rfl (Nat.le_of_ble_eq_true rfl) dL_law_232 (fun H2 locs2 w2 w1 => ?_)
  refine la_eq B dL_law_235 (by decide) ?_
  exact kk v2 hx2 hm2 H2 locs2 ⟨w1, w2, dj, iv2⟩
theorem lc_fault (B : LB p s m c b L xs) (hi : i + 4 ≤ L ∧ L ≤ 256) (hn : 1100 ≤ n) (st : LSt s D X Y H locs w hx hm) (hl : lv_has ls 4 (LL b X Y i)) (kk : ∀ (w : Bool) (hx hm : Hp) (H : Heap) (locs : List Jvm.Loc), LSt s D X Y H locs w hx hm → W p l e room_1 s m #[Value.ref b] below meth c H locs 58 2078 Q (F0 m 1223 ls [])) : W p l e room_1 s m #[Value.ref b] below meth c H locs 58 2078 Q (F0 m 240 ls []) := by
  obtain ⟨w1, w2, dj, iv⟩ := st
  obtain ⟨o, e1, e2⟩ := sim_fault (n := n) iv
  refine lv_aload_n B.1 B.2.1 dL_law_240 rfl (lv_at hl 1 rfl) ?_
  refine la_call (As := []) (n := 0) (st := []) (v := o) (h' := hx) (r' := RX w) B w1 w2 dj (kX5_fault (wfx w) rfl e1) gL_law_X5_fault rfl ⟨rfl, rfl⟩ ⟨rfl, hdX5_fault⟩ ⟨Nat.le_of_ble_eq_true rfl, Nat.le_of_ble_eq_true rfl⟩ cf5 rfl rfl rfl hl.1 rfl (Nat.le_of_ble_eq_true rfl) dL_law_241 (fun H1 locs1 w1 w2 => ?_)
  refine lv_aload_n B.1 B.2.1 dL_law_244 rfl (lv_at hl 2 rfl) ?_
  refine la_call (As := []) (n := 0) (st := [.int o]) (v := o) (h' := hm) (r' := RM) B w2 w1 dj.sy (kX6_fault wfm rfl e2) gL_law_X6_fault rfl ⟨rfl, rfl⟩ ⟨rfl, hdX6_fault⟩ ⟨Nat.le_of_ble_eq_true rfl, Nat.le_of_ble_eq_true rfl⟩ cf6 rfl rfl rfl hl.1 rfl (Nat.le_of_ble_eq_true rfl) dL_law_245 (fun H2 locs2 w2 w1 => ?_)
  refine la_eq B dL_law_248 (by decide) ?_
  exact kk w hx hm H2 locs2 ⟨w1, w2, dj, iv⟩
theorem lc_told (B : LB p s m c b L xs) (hi : i + 4 ≤ L ∧ L ≤ 256) (hn : 1100 ≤ n) (st : LSt s D X Y H locs w hx hm) (hl : lv_has ls 4 (LL b X Y i)) (kk : ∀ (w : Bool) (hx hm : Hp) (H : Heap) (locs : List Jvm.Loc), LSt s D X Y H locs w hx hm → W p l e room_1 s m #[Value.ref b] below meth c H locs 58 2078 Q (F0 m 1223 ls [])) : W p l e room_1 s m #[Value.ref b] below meth c H locs 58 2078 Q (F0 m 253 ls []) := by
  obtain ⟨w1, w2, dj, iv⟩ := st
  obtain ⟨o, hx2, e1, e2, iv2⟩ := sim_told (n := n) iv (xs (i + 1)) (Nat.le_trans (by decide) hn)
  refine lv_aload_n B.1 B.2.1 dL_law_253 rfl (lv_at hl 1 rfl) ?_
  refine la_arg 1 B w1.2.2.2.1 hl hi (by decide) dL_law_254 dL_law_255 dL_law_256 dL_law_257 dL_law_258 ?_
  refine la_call (As := [.int (xs (i + 1))]) (n := 1) (st := []) (v := o) (h' := hx2) (r' := RX w) B w1 w2 dj (kX5_told (wfx w) rfl e1) gL_law_X5_told rfl ⟨rfl, rfl⟩ ⟨rfl, hdX5_told⟩ ⟨Nat.le_of_ble_eq_true rfl, Nat.le_of_ble_eq_true rfl⟩ cf5 rfl rfl rfl hl.1 rfl (Nat.le_of_ble_eq_true rfl) dL_law_259 (fun H1 locs1 w1 w2 => ?_)
  refine lv_aload_n B.1 B.2.1 dL_law_262 rfl (lv_at hl 2 rfl) ?_
  refine la_arg 1 B w1.2.2.2.1 hl hi (by decide) dL_law_263 dL_law_264 dL_law_265 dL_law_266 dL_law_267 ?_
  refine la_call (As := [.int (xs (i + 1))]) (n := 1) (st := [.int o]) (v := o) (h' := hm) (r' := RM) B w2 w1 dj.sy (kX6_told wfm rfl e2) gL_law_X6_told rfl ⟨rfl, rfl⟩ ⟨rfl, hdX6_told⟩ ⟨Nat.le_of_ble_eq_true rfl, Nat.le_of_ble_eq_true rfl⟩ cf6 rfl rfl rfl hl.1 rfl (Nat.le_of_ble_eq_true rfl) dL_law_268 (fun H2 locs2 w2 w1 => ?_)
  refine la_eq B dL_law_271 (by decide) ?_
  exact kk w hx2 hm H2 locs2 ⟨w1, w2, dj, iv2⟩
theorem lc_link (B : LB p s m c b L xs) (hi : i + 4 ≤ L ∧ L ≤ 256) (hn : 1100 ≤ n) (st : LSt s D X Y H locs w hx hm) (hl : lv_has ls 4 (LL b X Y i)) (kk : ∀ (w : Bool) (hx hm : Hp) (H : Heap) (locs : List Jvm.Loc), LSt s D X Y H locs w hx hm → W p l e room_1 s m #[Value.ref b] below meth c H locs 58 2078 Q (F0 m 1223 ls [])) : W p l e room_1 s m #[Value.ref b] below meth c H locs 58 2078 Q (F0 m 276 ls []) := by
  obtain ⟨w1, w2, dj, iv⟩ := st
  obtain ⟨o, e1, e2⟩ := sim_link (n := n) iv (xs (i + 1)) (xs (i + 2))
  refine lv_aload_n B.1 B.2.1 dL_law_276 rfl (lv_at hl 1 rfl) ?_
  refine la_arg 1 B w1.2.2.2.1 hl hi (by decide) dL_law_277 dL_law_278 dL_law_279 dL_law_280 dL_law_281 ?_
  refine la_arg 2 B w1.2.2.2.1 hl hi (by decide) dL_law_282 dL_law_283 dL_law_284 dL_law_285 dL_law_286 ?_
  refine la_call (As := [.int (xs (i + 1)), .int (xs (i + 2))]) (n := 2) (st := []) (v := o) (h' := hx) (r' := RX w) B w1 w2 dj (kX5_link (wfx w) rfl e1) gL_law_X5_link rfl ⟨rfl, rfl⟩ ⟨rfl, hdX5_link⟩ ⟨Nat.le_of_ble_eq_true rfl, Nat.le_of_ble_eq_true rfl⟩ cf5 rfl rfl rfl hl.1 rfl (Nat.le_of_ble_eq_true rfl) dL_law_287 (fun H1 locs1 w1 w2 => ?_)
  refine lv_aload_n B.1 B.2.1 dL_law_290 rfl (lv_at hl 2 rfl) ?_
  refine la_arg 1 B w1.2.2.2.1 hl hi (by decide) dL_law_291 dL_law_292 dL_law_293 dL_law_294 dL_law_295 ?_
  refine la_arg 2 B w1.2.2.2.1 hl hi (by decide) dL_law_296 dL_law_297 dL_law_298 dL_law_299 dL_law_300 ?_
  refine la_call (As := [.int (xs (i + 1)), .int (xs (i + 2))]) (n := 2) (st := [.int o]) (v := o) (h' := hm) (r' := RM) B w2 w1 dj.sy (kX6_link wfm rfl e2) gL_law_X6_link rfl ⟨rfl, rfl⟩ ⟨rfl, hdX6_link⟩ ⟨Nat.le_of_ble_eq_true rfl, Nat.le_of_ble_eq_true rfl⟩ cf6 rfl rfl rfl hl.1 rfl (Nat.le_of_ble_eq_true rfl) dL_law_301 (fun H2 locs2 w2 w1 => ?_)
  refine la_eq B dL_law_304 (by decide) ?_
  exact kk w hx hm H2 locs2 ⟨w1, w2, dj, iv⟩
theorem lc_reads (B : LB p s m c b L xs) (hi : i + 4 ≤ L ∧ L ≤ 256) (hn : 1100 ≤ n) (st : LSt s D X Y H locs w hx hm) (hl : lv_has ls 4 (LL b X Y i)) (kk : ∀ (w : Bool) (hx hm : Hp) (H : Heap) (locs : List Jvm.Loc), LSt s D X Y H locs w hx hm → W p l e room_1 s m #[Value.ref b] below meth c H locs 58 2078 Q (F0 m 1223 ls [])) : W p l e room_1 s m #[Value.ref b] below meth c H locs 58 2078 Q (F0 m 309 ls []) := by
  obtain ⟨w1, w2, dj, iv⟩ := st
  obtain ⟨o, e1, e2⟩ := sim_reads (n := n) iv (xs (i + 1)) (xs (i + 2))
  refine lv_aload_n B.1 B.2.1 dL_law_309 rfl (lv_at hl 1 rfl) ?_
  refine la_arg 1 B w1.2.2.2.1 hl hi (by decide) dL_law_310 dL_law_311 dL_law_312 dL_law_313 dL_law_314 ?_
  refine la_arg 2 B w1.2.2.2.1 hl hi (by decide) dL_law_315 dL_law_316 dL_law_317 dL_law_318 dL_law_319 ?_
  refine la_call (As := [.int (xs (i + 1)), .int (xs (i + 2))]) (n := 2) (st := []) (v := o) (h' := hx) (r' := RX w) B w1 w2 dj (kX5_reads (wfx w) rfl e1) gL_law_X5_reads rfl ⟨rfl, rfl⟩ ⟨rfl, hdX5_reads⟩ ⟨Nat.le_of_ble_eq_true rfl, Nat.le_of_ble_eq_true rfl⟩ cf5 rfl rfl rfl hl.1 rfl (Nat.le_of_ble_eq_true rfl) dL_law_320 (fun H1 locs1 w1 w2 => ?_)
  refine lv_aload_n B.1 B.2.1 dL_law_323 rfl (lv_at hl 2 rfl) ?_
  refine la_arg 1 B w1.2.2.2.1 hl hi (by decide) dL_law_324 dL_law_325 dL_law_326 dL_law_327 dL_law_328 ?_
  refine la_arg 2 B w1.2.2.2.1 hl hi (by decide) dL_law_329 dL_law_330 dL_law_331 dL_law_332 dL_law_333 ?_
  refine la_call (As := [.int (xs (i + 1)), .int (xs (i + 2))]) (n := 2) (st := [.int o]) (v := o) (h' := hm) (r' := RM) B w2 w1 dj.sy (kX6_reads wfm rfl e2) gL_law_X6_reads rfl ⟨rfl, rfl⟩ ⟨rfl, hdX6_reads⟩ ⟨Nat.le_of_ble_eq_true rfl, Nat.le_of_ble_eq_true rfl⟩ cf6 rfl rfl rfl hl.1 rfl (Nat.le_of_ble_eq_true rfl) dL_law_334 (fun H2 locs2 w2 w1 => ?_)
  refine la_eq B dL_law_337 (by decide) ?_
  exact kk w hx hm H2 locs2 ⟨w1, w2, dj, iv⟩
theorem lc_wind (B : LB p s m c b L xs) (hi : i + 4 ≤ L ∧ L ≤ 256) (hn : 1100 ≤ n) (st : LSt s D X Y H locs w hx hm) (hl : lv_has ls 4 (LL b X Y i)) (kk : ∀ (w : Bool) (hx hm : Hp) (H : Heap) (locs : List Jvm.Loc), LSt s D X Y H locs w hx hm → W p l e room_1 s m #[Value.ref b] below meth c H locs 58 2078 Q (F0 m 1223 ls [])) : W p l e room_1 s m #[Value.ref b] below meth c H locs 58 2078 Q (F0 m 342 ls []) := by
  obtain ⟨w1, w2, dj, iv⟩ := st
  obtain ⟨o, e1, e2⟩ := sim_wind (n := n) iv (xs (i + 1))
  refine lv_aload_n B.1 B.2.1 dL_law_342 rfl (lv_at hl 1 rfl) ?_
  refine la_arg 1 B w1.2.2.2.1 hl hi (by decide) dL_law_343 dL_law_344 dL_law_345 dL_law_346 dL_law_347 ?_
  refine la_call (As := [.int (xs (i + 1))]) (n := 1) (st := []) (v := o) (h' := hx) (r' := RX w) B w1 w2 dj (kX5_wind (wfx w) rfl e1) gL_law_X5_wind rfl ⟨rfl, rfl⟩ ⟨rfl, hdX5_wind⟩ ⟨Nat.le_of_ble_eq_true rfl, Nat.le_of_ble_eq_true rfl⟩ cf5 rfl rfl rfl hl.1 rfl (Nat.le_of_ble_eq_true rfl) dL_law_348 (fun H1 locs1 w1 w2 => ?_)
  refine lv_aload_n B.1 B.2.1 dL_law_351 rfl (lv_at hl 2 rfl) ?_
  refine la_arg 1 B w1.2.2.2.1 hl hi (by decide) dL_law_352 dL_law_353 dL_law_354 dL_law_355 dL_law_356 ?_
  refine la_call (As := [.int (xs (i + 1))]) (n := 1) (st := [.int o]) (v := o) (h' := hm) (r' := RM) B w2 w1 dj.sy (kX6_wind wfm rfl e2) gL_law_X6_wind rfl ⟨rfl, rfl⟩ ⟨rfl, hdX6_wind⟩ ⟨Nat.le_of_ble_eq_true rfl, Nat.le_of_ble_eq_true rfl⟩ cf6 rfl rfl rfl hl.1 rfl (Nat.le_of_ble_eq_true rfl) dL_law_357 (fun H2 locs2 w2 w1 => ?_)
  refine la_eq B dL_law_360 (by decide) ?_
  exact kk w hx hm H2 locs2 ⟨w1, w2, dj, iv⟩
theorem lc_hour (B : LB p s m c b L xs) (hi : i + 4 ≤ L ∧ L ≤ 256) (hn : 1100 ≤ n) (st : LSt s D X Y H locs w hx hm) (hl : lv_has ls 4 (LL b X Y i)) (kk : ∀ (w : Bool) (hx hm : Hp) (H : Heap) (locs : List Jvm.Loc), LSt s D X Y H locs w hx hm → W p l e room_1 s m #[Value.ref b] below meth c H locs 58 2078 Q (F0 m 1223 ls [])) : W p l e room_1 s m #[Value.ref b] below meth c H locs 58 2078 Q (F0 m 365 ls []) := by
  obtain ⟨w1, w2, dj, iv⟩ := st
  obtain ⟨o, hx2, hm2, e1, e2, iv2⟩ := sim_hour (n := n) iv (xs (i + 1)) (Nat.le_trans (by decide) hn)
  refine lv_aload_n B.1 B.2.1 dL_law_365 rfl (lv_at hl 1 rfl) ?_
  refine la_arg 1 B w1.2.2.2.1 hl hi (by decide) dL_law_366 dL_law_367 dL_law_368 dL_law_369 dL_law_370 ?_
  refine la_call (As := [.int (xs (i + 1))]) (n := 1) (st := []) (v := o) (h' := hx2) (r' := RX w) B w1 w2 dj (kX5_hour (wfx w) rfl e1) gL_law_X5_hour rfl ⟨rfl, rfl⟩ ⟨rfl, hdX5_hour⟩ ⟨Nat.le_of_ble_eq_true rfl, Nat.le_of_ble_eq_true rfl⟩ cf5 rfl rfl rfl hl.1 rfl (Nat.le_of_ble_eq_true rfl) dL_law_371 (fun H1 locs1 w1 w2 => ?_)
  refine lv_aload_n B.1 B.2.1 dL_law_374 rfl (lv_at hl 2 rfl) ?_
  refine la_arg 1 B w1.2.2.2.1 hl hi (by decide) dL_law_375 dL_law_376 dL_law_377 dL_law_378 dL_law_379 ?_
  refine la_call (As := [.int (xs (i + 1))]) (n := 1) (st := [.int o]) (v := o) (h' := hm2) (r' := RM) B w2 w1 dj.sy (kX6_hour wfm rfl e2) gL_law_X6_hour rfl ⟨rfl, rfl⟩ ⟨rfl, hdX6_hour⟩ ⟨Nat.le_of_ble_eq_true rfl, Nat.le_of_ble_eq_true rfl⟩ cf6 rfl rfl rfl hl.1 rfl (Nat.le_of_ble_eq_true rfl) dL_law_380 (fun H2 locs2 w2 w1 => ?_)
  refine la_eq B dL_law_383 (by decide) ?_
  exact kk w hx2 hm2 H2 locs2 ⟨w1, w2, dj, iv2⟩
theorem lc_undoLink (B : LB p s m c b L xs) (hi : i + 4 ≤ L ∧ L ≤ 256) (hn : 1100 ≤ n) (st : LSt s D X Y H locs w hx hm) (hl : lv_has ls 4 (LL b X Y i)) (kk : ∀ (w : Bool) (hx hm : Hp) (H : Heap) (locs : List Jvm.Loc), LSt s D X Y H locs w hx hm → W p l e room_1 s m #[Value.ref b] below meth c H locs 58 2078 Q (F0 m 1223 ls [])) : W p l e room_1 s m #[Value.ref b] below meth c H locs 58 2078 Q (F0 m 388 ls []) := by
  obtain ⟨w1, w2, dj, iv⟩ := st
  obtain ⟨o, hx2, hm2, e1, e2, iv2⟩ := sim_undoLink (n := n) iv (xs (i + 1)) (Nat.le_trans (by decide) hn)
  refine lv_aload_n B.1 B.2.1 dL_law_388 rfl (lv_at hl 1 rfl) ?_
  refine la_arg 1 B w1.2.2.2.1 hl hi (by decide) dL_law_389 dL_law_390 dL_law_391 dL_law_392 dL_law_393 ?_
  refine la_call (As := [.int (xs (i + 1))]) (n := 1) (st := []) (v := o) (h' := hx2) (r' := RX w) B w1 w2 dj (kX5_undoLink (wfx w) rfl e1) gL_law_X5_undoLink rfl ⟨rfl, rfl⟩ ⟨rfl, hdX5_undoLink⟩ ⟨Nat.le_of_ble_eq_true rfl, Nat.le_of_ble_eq_true rfl⟩ cf5 rfl rfl rfl hl.1 rfl (Nat.le_of_ble_eq_true rfl) dL_law_394 (fun H1 locs1 w1 w2 => ?_)
  refine lv_aload_n B.1 B.2.1 dL_law_397 rfl (lv_at hl 2 rfl) ?_
  refine la_arg 1 B w1.2.2.2.1 hl hi (by decide) dL_law_398 dL_law_399 dL_law_400 dL_law_401 dL_law_402 ?_
  refine la_call (As := [.int (xs (i + 1))]) (n := 1) (st := [.int o]) (v := o) (h' := hm2) (r' := RM) B w2 w1 dj.sy (kX6_undoLink wfm rfl e2) gL_law_X6_undoLink rfl ⟨rfl, rfl⟩ ⟨rfl, hdX6_undoLink⟩ ⟨Nat.le_of_ble_eq_true rfl, Nat.le_of_ble_eq_true rfl⟩ cf6 rfl rfl rfl hl.1 rfl (Nat.le_of_ble_eq_true rfl) dL_law_403 (fun H2 locs2 w2 w1 => ?_)
  refine la_eq B dL_law_406 (by decide) ?_
  exact kk w hx2 hm2 H2 locs2 ⟨w1, w2, dj, iv2⟩
theorem lc_doUp (B : LB p s m c b L xs) (hi : i + 4 ≤ L ∧ L ≤ 256) (hn : 1100 ≤ n) (st : LSt s D X Y H locs w hx hm) (hl : lv_has ls 4 (LL b X Y i)) (kk : ∀ (w : Bool) (hx hm : Hp) (H : Heap) (locs : List Jvm.Loc), LSt s D X Y H locs w hx hm → W p l e room_1 s m #[Value.ref b] below meth c H locs 58 2078 Q (F0 m 1223 ls [])) : W p l e room_1 s m #[Value.ref b] below meth c H locs 58 2078 Q (F0 m 411 ls []) := by
  obtain ⟨w1, w2, dj, iv⟩ := st
  obtain ⟨o, hx2, hm2, e1, e2, iv2⟩ := sim_doUp (n := n) iv (xs (i + 1)) (Nat.le_trans (by decide) hn)
  refine lv_aload_n B.1 B.2.1 dL_law_411 rfl (lv_at hl 1 rfl) ?_
  refine la_arg 1 B w1.2.2.2.1 hl hi (by decide) dL_law_412 dL_law_413 dL_law_414 dL_law_415 dL_law_416 ?_
  refine la_call (As := [.int (xs (i + 1))]) (n := 1) (st := []) (v := o) (h' := hx2) (r' := RX w) B w1 w2 dj (kX5_doUp (wfx w) rfl e1) gL_law_X5_doUp rfl ⟨rfl, rfl⟩ ⟨rfl, hdX5_doUp⟩ ⟨Nat.le_of_ble_eq_true rfl, Nat.le_of_ble_eq_true rfl⟩ cf5 rfl rfl rfl hl.1 rfl (Nat.le_of_ble_eq_true rfl) dL_law_417 (fun H1 locs1 w1 w2 => ?_)
  refine lv_aload_n B.1 B.2.1 dL_law_420 rfl (lv_at hl 2 rfl) ?_
  refine la_arg 1 B w1.2.2.2.1 hl hi (by decide) dL_law_421 dL_law_422 dL_law_423 dL_law_424 dL_law_425 ?_
  refine la_call (As := [.int (xs (i + 1))]) (n := 1) (st := [.int o]) (v := o) (h' := hm2) (r' := RM) B w2 w1 dj.sy (kX6_doUp wfm rfl e2) gL_law_X6_doUp rfl ⟨rfl, rfl⟩ ⟨rfl, hdX6_doUp⟩ ⟨Nat.le_of_ble_eq_true rfl, Nat.le_of_ble_eq_true rfl⟩ cf6 rfl rfl rfl hl.1 rfl (Nat.le_of_ble_eq_true rfl) dL_law_426 (fun H2 locs2 w2 w1 => ?_)
  refine la_eq B dL_law_429 (by decide) ?_
  exact kk w hx2 hm2 H2 locs2 ⟨w1, w2, dj, iv2⟩
theorem lc_turn (B : LB p s m c b L xs) (hi : i + 4 ≤ L ∧ L ≤ 256) (hn : 1100 ≤ n) (st : LSt s D X Y H locs w hx hm) (hl : lv_has ls 4 (LL b X Y i)) (kk : ∀ (w : Bool) (hx hm : Hp) (H : Heap) (locs : List Jvm.Loc), LSt s D X Y H locs w hx hm → W p l e room_1 s m #[Value.ref b] below meth c H locs 58 2078 Q (F0 m 1223 ls [])) : W p l e room_1 s m #[Value.ref b] below meth c H locs 58 2078 Q (F0 m 434 ls []) := by
  obtain ⟨w1, w2, dj, iv⟩ := st
  obtain ⟨o, hx2, hm2, e1, e2, iv2⟩ := sim_turn (n := n) iv (xs (i + 1)) (Nat.le_trans (by decide) hn)
  refine lv_aload_n B.1 B.2.1 dL_law_434 rfl (lv_at hl 1 rfl) ?_
  refine la_arg 1 B w1.2.2.2.1 hl hi (by decide) dL_law_435 dL_law_436 dL_law_437 dL_law_438 dL_law_439 ?_
  refine la_call (As := [.int (xs (i + 1))]) (n := 1) (st := []) (v := o) (h' := hx2) (r' := RX w) B w1 w2 dj (kX5_turn (wfx w) rfl e1) gL_law_X5_turn rfl ⟨rfl, rfl⟩ ⟨rfl, hdX5_turn⟩ ⟨Nat.le_of_ble_eq_true rfl, Nat.le_of_ble_eq_true rfl⟩ cf5 rfl rfl rfl hl.1 rfl (Nat.le_of_ble_eq_true rfl) dL_law_440 (fun H1 locs1 w1 w2 => ?_)
  refine lv_aload_n B.1 B.2.1 dL_law_443 rfl (lv_at hl 2 rfl) ?_
  refine la_arg 1 B w1.2.2.2.1 hl hi (by decide) dL_law_444 dL_law_445 dL_law_446 dL_law_447 dL_law_448 ?_
  refine la_call (As := [.int (xs (i + 1))]) (n := 1) (st := [.int o]) (v := o) (h' := hm2) (r' := RM) B w2 w1 dj.sy (kX6_turn wfm rfl e2) gL_law_X6_turn rfl ⟨rfl, rfl⟩ ⟨rfl, hdX6_turn⟩ ⟨Nat.le_of_ble_eq_true rfl, Nat.le_of_ble_eq_true rfl⟩ cf6 rfl rfl rfl hl.1 rfl (Nat.le_of_ble_eq_true rfl) dL_law_449 (fun H2 locs2 w2 w1 => ?_)
  refine la_eq B dL_law_452 (by decide) ?_
  exact kk w hx2 hm2 H2 locs2 ⟨w1, w2, dj, iv2⟩
theorem lc_mend (B : LB p s m c b L xs) (hi : i + 4 ≤ L ∧ L ≤ 256) (hn : 1100 ≤ n) (st : LSt s D X Y H locs w hx hm) (hl : lv_has ls 4 (LL b X Y i)) (kk : ∀ (w : Bool) (hx hm : Hp) (H : Heap) (locs : List Jvm.Loc), LSt s D X Y H locs w hx hm → W p l e room_1 s m #[Value.ref b] below meth c H locs 58 2078 Q (F0 m 1223 ls [])) : W p l e room_1 s m #[Value.ref b] below meth c H locs 58 2078 Q (F0 m 457 ls []) := by
  obtain ⟨w1, w2, dj, iv⟩ := st
  obtain ⟨o, hx2, hm2, e1, e2, iv2⟩ := sim_mend (n := n) iv (xs (i + 1)) (Nat.le_trans (by decide) hn)
  refine lv_aload_n B.1 B.2.1 dL_law_457 rfl (lv_at hl 1 rfl) ?_
  refine la_arg 1 B w1.2.2.2.1 hl hi (by decide) dL_law_458 dL_law_459 dL_law_460 dL_law_461 dL_law_462 ?_
  refine la_call (As := [.int (xs (i + 1))]) (n := 1) (st := []) (v := o) (h' := hx2) (r' := RX w) B w1 w2 dj (kX5_mend (wfx w) rfl e1) gL_law_X5_mend rfl ⟨rfl, rfl⟩ ⟨rfl, hdX5_mend⟩ ⟨Nat.le_of_ble_eq_true rfl, Nat.le_of_ble_eq_true rfl⟩ cf5 rfl rfl rfl hl.1 rfl (Nat.le_of_ble_eq_true rfl) dL_law_463 (fun H1 locs1 w1 w2 => ?_)
  refine lv_aload_n B.1 B.2.1 dL_law_466 rfl (lv_at hl 2 rfl) ?_
  refine la_arg 1 B w1.2.2.2.1 hl hi (by decide) dL_law_467 dL_law_468 dL_law_469 dL_law_470 dL_law_471 ?_
  refine la_call (As := [.int (xs (i + 1))]) (n := 1) (st := [.int o]) (v := o) (h' := hm2) (r' := RM) B w2 w1 dj.sy (kX6_mend wfm rfl e2) gL_law_X6_mend rfl ⟨rfl, rfl⟩ ⟨rfl, hdX6_mend⟩ ⟨Nat.le_of_ble_eq_true rfl, Nat.le_of_ble_eq_true rfl⟩ cf6 rfl rfl rfl hl.1 rfl (Nat.le_of_ble_eq_true rfl) dL_law_472 (fun H2 locs2 w2 w1 => ?_)
  refine la_eq B dL_law_475 (by decide) ?_
  exact kk w hx2 hm2 H2 locs2 ⟨w1, w2, dj, iv2⟩
theorem lc_hold (B : LB p s m c b L xs) (hi : i + 4 ≤ L ∧ L ≤ 256) (hn : 1100 ≤ n) (st : LSt s D X Y H locs w hx hm) (hl : lv_has ls 4 (LL b X Y i)) (kk : ∀ (w : Bool) (hx hm : Hp) (H : Heap) (locs : List Jvm.Loc), LSt s D X Y H locs w hx hm → W p l e room_1 s m #[Value.ref b] below meth c H locs 58 2078 Q (F0 m 1223 ls [])) : W p l e room_1 s m #[Value.ref b] below meth c H locs 58 2078 Q (F0 m 480 ls []) := by
  obtain ⟨w1, w2, dj, iv⟩ := st
  obtain ⟨o, hx2, hm2, e1, e2, iv2⟩ := sim_hold (n := n) iv (xs (i + 1)) (bI (decide (xs (i + 2) ≠ 0))) (Nat.le_trans (by decide) hn)
  refine lv_aload_n B.1 B.2.1 dL_law_480 rfl (lv_at hl 1 rfl) ?_
  refine la_arg 1 B w1.2.2.2.1 hl hi (by decide) dL_law_481 dL_law_482 dL_law_483 dL_law_484 dL_law_485 ?_
  refine la_arg 2 B w1.2.2.2.1 hl hi (by decide) dL_law_486 dL_law_487 dL_law_488 dL_law_489 dL_law_490 ?_
  refine la_flag B dL_law_491 dL_law_494 dL_law_495 dL_law_498 ?_
  refine la_call (As := [.int (xs (i + 1)), .int (bI (decide (xs (i + 2) ≠ 0)))]) (n := 2) (st := []) (v := o) (h' := hx2) (r' := RX w) B w1 w2 dj (kX5_hold (wfx w) rfl e1) gL_law_X5_hold rfl ⟨rfl, rfl⟩ ⟨rfl, hdX5_hold⟩ ⟨Nat.le_of_ble_eq_true rfl, Nat.le_of_ble_eq_true rfl⟩ cf5 rfl rfl rfl hl.1 rfl (Nat.le_of_ble_eq_true rfl) dL_law_499 (fun H1 locs1 w1 w2 => ?_)
  refine lv_aload_n B.1 B.2.1 dL_law_502 rfl (lv_at hl 2 rfl) ?_
  refine la_arg 1 B w1.2.2.2.1 hl hi (by decide) dL_law_503 dL_law_504 dL_law_505 dL_law_506 dL_law_507 ?_
  refine la_arg 2 B w1.2.2.2.1 hl hi (by decide) dL_law_508 dL_law_509 dL_law_510 dL_law_511 dL_law_512 ?_
  refine la_flag B dL_law_513 dL_law_516 dL_law_517 dL_law_520 ?_
  refine la_call (As := [.int (xs (i + 1)), .int (bI (decide (xs (i + 2) ≠ 0)))]) (n := 2) (st := [.int o]) (v := o) (h' := hm2) (r' := RM) B w2 w1 dj.sy (kX6_hold wfm rfl e2) gL_law_X6_hold rfl ⟨rfl, rfl⟩ ⟨rfl, hdX6_hold⟩ ⟨Nat.le_of_ble_eq_true rfl, Nat.le_of_ble_eq_true rfl⟩ cf6 rfl rfl rfl hl.1 rfl (Nat.le_of_ble_eq_true rfl) dL_law_521 (fun H2 locs2 w2 w1 => ?_)
  refine la_eq B dL_law_524 (by decide) ?_
  exact kk w hx2 hm2 H2 locs2 ⟨w1, w2, dj, iv2⟩
theorem lc_earn (B : LB p s m c b L xs) (hi : i + 4 ≤ L ∧ L ≤ 256) (hn : 1100 ≤ n) (st : LSt s D X Y H locs w hx hm) (hl : lv_has ls 4 (LL b X Y i)) (kk : ∀ (w : Bool) (hx hm : Hp) (H : Heap) (locs : List Jvm.Loc), LSt s D X Y H locs w hx hm → W p l e room_1 s m #[Value.ref b] below meth c H locs 58 2078 Q (F0 m 1223 ls [])) : W p l e room_1 s m #[Value.ref b] below meth c H locs 58 2078 Q (F0 m 529 ls []) := by
  obtain ⟨w1, w2, dj, iv⟩ := st
  obtain ⟨o, hx2, hm2, e1, e2, iv2⟩ := sim_earn (n := n) iv (xs (i + 1)) (Nat.le_trans (by decide) hn)
  refine lv_aload_n B.1 B.2.1 dL_law_529 rfl (lv_at hl 1 rfl) ?_
  refine la_arg 1 B w1.2.2.2.1 hl hi (by decide) dL_law_530 dL_law_531 dL_law_532 dL_law_533 dL_law_534 ?_
  refine la_call (As := [.int (xs (i + 1))]) (n := 1) (st := []) (v := o) (h' := hx2) (r' := RX w) B w1 w2 dj (kX5_earn (wfx w) rfl e1) gL_law_X5_earn rfl ⟨rfl, rfl⟩ ⟨rfl, hdX5_earn⟩ ⟨Nat.le_of_ble_eq_true rfl, Nat.le_of_ble_eq_true rfl⟩ cf5 rfl rfl rfl hl.1 rfl (Nat.le_of_ble_eq_true rfl) dL_law_535 (fun H1 locs1 w1 w2 => ?_)
  refine lv_aload_n B.1 B.2.1 dL_law_538 rfl (lv_at hl 2 rfl) ?_
  refine la_arg 1 B w1.2.2.2.1 hl hi (by decide) dL_law_539 dL_law_540 dL_law_541 dL_law_542 dL_law_543 ?_
  refine la_call (As := [.int (xs (i + 1))]) (n := 1) (st := [.int o]) (v := o) (h' := hm2) (r' := RM) B w2 w1 dj.sy (kX6_earn wfm rfl e2) gL_law_X6_earn rfl ⟨rfl, rfl⟩ ⟨rfl, hdX6_earn⟩ ⟨Nat.le_of_ble_eq_true rfl, Nat.le_of_ble_eq_true rfl⟩ cf6 rfl rfl rfl hl.1 rfl (Nat.le_of_ble_eq_true rfl) dL_law_544 (fun H2 locs2 w2 w1 => ?_)
  refine la_eq B dL_law_547 (by decide) ?_
  exact kk w hx2 hm2 H2 locs2 ⟨w1, w2, dj, iv2⟩
theorem lc_drift (B : LB p s m c b L xs) (hi : i + 4 ≤ L ∧ L ≤ 256) (hn : 1100 ≤ n) (st : LSt s D X Y H locs w hx hm) (hl : lv_has ls 4 (LL b X Y i)) (kk : ∀ (w : Bool) (hx hm : Hp) (H : Heap) (locs : List Jvm.Loc), LSt s D X Y H locs w hx hm → W p l e room_1 s m #[Value.ref b] below meth c H locs 58 2078 Q (F0 m 1223 ls [])) : W p l e room_1 s m #[Value.ref b] below meth c H locs 58 2078 Q (F0 m 552 ls []) := by
  obtain ⟨w1, w2, dj, iv⟩ := st
  obtain ⟨o, hx2, hm2, e1, e2, iv2⟩ := sim_drift (n := n) iv (xs (i + 1)) (Nat.le_trans (by decide) hn)
  refine lv_aload_n B.1 B.2.1 dL_law_552 rfl (lv_at hl 1 rfl) ?_
  refine la_arg 1 B w1.2.2.2.1 hl hi (by decide) dL_law_553 dL_law_554 dL_law_555 dL_law_556 dL_law_557 ?_
  refine la_call (As := [.int (xs (i + 1))]) (n := 1) (st := []) (v := o) (h' := hx2) (r' := RX w) B w1 w2 dj (kX5_drift (wfx w) rfl e1) gL_law_X5_drift rfl ⟨rfl, rfl⟩ ⟨rfl, hdX5_drift⟩ ⟨Nat.le_of_ble_eq_true rfl, Nat.le_of_ble_eq_true rfl⟩ cf5 rfl rfl rfl hl.1 rfl (Nat.le_of_ble_eq_true rfl) dL_law_558 (fun H1 locs1 w1 w2 => ?_)
  refine lv_aload_n B.1 B.2.1 dL_law_561 rfl (lv_at hl 2 rfl) ?_
  refine la_arg 1 B w1.2.2.2.1 hl hi (by decide) dL_law_562 dL_law_563 dL_law_564 dL_law_565 dL_law_566 ?_
  refine la_call (As := [.int (xs (i + 1))]) (n := 1) (st := [.int o]) (v := o) (h' := hm2) (r' := RM) B w2 w1 dj.sy (kX6_drift wfm rfl e2) gL_law_X6_drift rfl ⟨rfl, rfl⟩ ⟨rfl, hdX6_drift⟩ ⟨Nat.le_of_ble_eq_true rfl, Nat.le_of_ble_eq_true rfl⟩ cf6 rfl rfl rfl hl.1 rfl (Nat.le_of_ble_eq_true rfl) dL_law_567 (fun H2 locs2 w2 w1 => ?_)
  refine la_eq B dL_law_570 (by decide) ?_
  exact kk w hx2 hm2 H2 locs2 ⟨w1, w2, dj, iv2⟩
theorem lc_undo (B : LB p s m c b L xs) (hi : i + 4 ≤ L ∧ L ≤ 256) (hn : 1100 ≤ n) (st : LSt s D X Y H locs w hx hm) (hl : lv_has ls 4 (LL b X Y i)) (kk : ∀ (w : Bool) (hx hm : Hp) (H : Heap) (locs : List Jvm.Loc), LSt s D X Y H locs w hx hm → W p l e room_1 s m #[Value.ref b] below meth c H locs 58 2078 Q (F0 m 1223 ls [])) : W p l e room_1 s m #[Value.ref b] below meth c H locs 58 2078 Q (F0 m 575 ls []) := by
  obtain ⟨w1, w2, dj, iv⟩ := st
  obtain ⟨o, hx2, hm2, e1, e2, iv2⟩ := sim_undo (n := n) iv (xs (i + 1)) (Nat.le_trans (by decide) hn)
  refine lv_aload_n B.1 B.2.1 dL_law_575 rfl (lv_at hl 1 rfl) ?_
  refine la_arg 1 B w1.2.2.2.1 hl hi (by decide) dL_law_576 dL_law_577 dL_law_578 dL_law_579 dL_law_580 ?_
  refine la_call (As := [.int (xs (i + 1))]) (n := 1) (st := []) (v := o) (h' := hx2) (r' := RX w) B w1 w2 dj (kX5_undo (wfx w) rfl e1) gL_law_X5_undo rfl ⟨rfl, rfl⟩ ⟨rfl, hdX5_undo⟩ ⟨Nat.le_of_ble_eq_true rfl, Nat.le_of_ble_eq_true rfl⟩ cf5 rfl rfl rfl hl.1 rfl (Nat.le_of_ble_eq_true rfl) dL_law_581 (fun H1 locs1 w1 w2 => ?_)
  refine lv_aload_n B.1 B.2.1 dL_law_584 rfl (lv_at hl 2 rfl) ?_
  refine la_arg 1 B w1.2.2.2.1 hl hi (by decide) dL_law_585 dL_law_586 dL_law_587 dL_law_588 dL_law_589 ?_
  refine la_call (As := [.int (xs (i + 1))]) (n := 1) (st := [.int o]) (v := o) (h' := hm2) (r' := RM) B w2 w1 dj.sy (kX6_undo wfm rfl e2) gL_law_X6_undo rfl ⟨rfl, rfl⟩ ⟨rfl, hdX6_undo⟩ ⟨Nat.le_of_ble_eq_true rfl, Nat.le_of_ble_eq_true rfl⟩ cf6 rfl rfl rfl hl.1 rfl (Nat.le_of_ble_eq_true rfl) dL_law_590 (fun H2 locs2 w2 w1 => ?_)
  refine la_eq B dL_law_593 (by decide) ?_
  exact kk w hx2 hm2 H2 locs2 ⟨w1, w2, dj, iv2⟩
theorem lc_lasts (B : LB p s m c b L xs) (hi : i + 4 ≤ L ∧ L ≤ 256) (hn : 1100 ≤ n) (st : LSt s D X Y H locs w hx hm) (hl : lv_has ls 4 (LL b X Y i)) (kk : ∀ (w : Bool) (hx hm : Hp) (H : Heap) (locs : List Jvm.Loc), LSt s D X Y H locs w hx hm → W p l e room_1 s m #[Value.ref b] below meth c H locs 58 2078 Q (F0 m 1223 ls [])) : W p l e room_1 s m #[Value.ref b] below meth c H locs 58 2078 Q (F0 m 598 ls []) := by
  obtain ⟨w1, w2, dj, iv⟩ := st
  obtain ⟨o, hx2, hm2, e1, e2, iv2⟩ := sim_lasts (n := n) iv (xs (i + 1)) (Nat.le_trans (by decide) hn)
  refine lv_aload_n B.1 B.2.1 dL_law_598 rfl (lv_at hl 1 rfl) ?_
  refine la_arg 1 B w1.2.2.2.1 hl hi (by decide) dL_law_599 dL_law_600 dL_law_601 dL_law_602 dL_law_603 ?_
  refine la_call (As := [.int (xs (i + 1))]) (n := 1) (st := []) (v := o) (h' := hx2) (r' := RX w) B w1 w2 dj (kX5_lasts (wfx w) rfl e1) gL_law_X5_lasts rfl ⟨rfl, rfl⟩ ⟨rfl, hdX5_lasts⟩ ⟨Nat.le_of_ble_eq_true rfl, Nat.le_of_ble_eq_true rfl⟩ cf5 rfl rfl rfl hl.1 rfl (Nat.le_of_ble_eq_true rfl) dL_law_604 (fun H1 locs1 w1 w2 => ?_)
  refine lv_aload_n B.1 B.2.1 dL_law_607 rfl (lv_at hl 2 rfl) ?_
  refine la_arg 1 B w1.2.2.2.1 hl hi (by decide) dL_law_608 dL_law_609 dL_law_610 dL_law_611 dL_law_612 ?_
  refine la_call (As := [.int (xs (i + 1))]) (n := 1) (st := [.int o]) (v := o) (h' := hm2) (r' := RM) B w2 w1 dj.sy (kX6_lasts wfm rfl e2) gL_law_X6_lasts rfl ⟨rfl, rfl⟩ ⟨rfl, hdX6_lasts⟩ ⟨Nat.le_of_ble_eq_true rfl, Nat.le_of_ble_eq_true rfl⟩ cf6 rfl rfl rfl hl.1 rfl (Nat.le_of_ble_eq_true rfl) dL_law_613 (fun H2 locs2 w2 w1 => ?_)
  refine la_eq B dL_law_616 (by decide) ?_
  exact kk w hx2 hm2 H2 locs2 ⟨w1, w2, dj, iv2⟩
theorem lc_first (B : LB p s m c b L xs) (hi : i + 4 ≤ L ∧ L ≤ 256) (hn : 1100 ≤ n) (st : LSt s D X Y H locs w hx hm) (hl : lv_has ls 4 (LL b X Y i)) (kk : ∀ (w : Bool) (hx hm : Hp) (H : Heap) (locs : List Jvm.Loc), LSt s D X Y H locs w hx hm → W p l e room_1 s m #[Value.ref b] below meth c H locs 58 2078 Q (F0 m 1223 ls [])) : W p l e room_1 s m #[Value.ref b] below meth c H locs 58 2078 Q (F0 m 621 ls []) := by
  obtain ⟨w1, w2, dj, iv⟩ := st
  obtain ⟨o, hx2, hm2, e1, e2, iv2⟩ := sim_first (n := n) iv (xs (i + 1)) (Nat.le_trans (by decide) hn)
  refine lv_aload_n B.1 B.2.1 dL_law_621 rfl (lv_at hl 1 rfl) ?_
  refine la_arg 1 B w1.2.2.2.1 hl hi (by decide) dL_law_622 dL_law_623 dL_law_624 dL_law_625 dL_law_626 ?_
  refine la_call (As := [.int (xs (i + 1))]) (n := 1) (st := []) (v := o) (h' := hx2) (r' := RX w) B w1 w2 dj (kX5_first (wfx w) rfl e1) gL_law_X5_first rfl ⟨rfl, rfl⟩ ⟨rfl, hdX5_first⟩ ⟨Nat.le_of_ble_eq_true rfl, Nat.le_of_ble_eq_true rfl⟩ cf5 rfl rfl rfl hl.1 rfl (Nat.le_of_ble_eq_true rfl) dL_law_627 (fun H1 locs1 w1 w2 => ?_)
  refine lv_aload_n B.1 B.2.1 dL_law_630 rfl (lv_at hl 2 rfl) ?_
  refine la_arg 1 B w1.2.2.2.1 hl hi (by decide) dL_law_631 dL_law_632 dL_law_633 dL_law_634 dL_law_635 ?_
  refine la_call (As := [.int (xs (i + 1))]) (n := 1) (st := [.int o]) (v := o) (h' := hm2) (r' := RM) B w2 w1 dj.sy (kX6_first wfm rfl e2) gL_law_X6_first rfl ⟨rfl, rfl⟩ ⟨rfl, hdX6_first⟩ ⟨Nat.le_of_ble_eq_true rfl, Nat.le_of_ble_eq_true rfl⟩ cf6 rfl rfl rfl hl.1 rfl (Nat.le_of_ble_eq_true rfl) dL_law_636 (fun H2 locs2 w2 w1 => ?_)
  refine la_eq B dL_law_639 (by decide) ?_
  exact kk w hx2 hm2 H2 locs2 ⟨w1, w2, dj, iv2⟩
theorem lc_still (B : LB p s m c b L xs) (hi : i + 4 ≤ L ∧ L ≤ 256) (hn : 1100 ≤ n) (st : LSt s D X Y H locs w hx hm) (hl : lv_has ls 4 (LL b X Y i)) (kk : ∀ (w : Bool) (hx hm : Hp) (H : Heap) (locs : List Jvm.Loc), LSt s D X Y H locs w hx hm → W p l e room_1 s m #[Value.ref b] below meth c H locs 58 2078 Q (F0 m 1223 ls [])) : W p l e room_1 s m #[Value.ref b] below meth c H locs 58 2078 Q (F0 m 644 ls []) := by
  obtain ⟨w1, w2, dj, iv⟩ := st
  obtain ⟨o, hx2, hm2, e1, e2, iv2⟩ := sim_still (n := n) iv (xs (i + 1)) (Nat.le_trans (by decide) hn)
  refine lv_aload_n B.1 B.2.1 dL_law_644 rfl (lv_at hl 1 rfl) ?_
  refine la_arg 1 B w1.2.2.2.1 hl hi (by decide) dL_law_645 dL_law_646 dL_law_647 dL_law_648 dL_law_649 ?_
  refine la_call (As := [.int (xs (i + 1))]) (n := 1) (st := []) (v := o) (h' := hx2) (r' := RX w) B w1 w2 dj (kX5_still (wfx w) rfl e1) gL_law_X5_still rfl ⟨rfl, rfl⟩ ⟨rfl, hdX5_still⟩ ⟨Nat.le_of_ble_eq_true rfl, Nat.le_of_ble_eq_true rfl⟩ cf5 rfl rfl rfl hl.1 rfl (Nat.le_of_ble_eq_true rfl) dL_law_650 (fun H1 locs1 w1 w2 => ?_)
  refine lv_aload_n B.1 B.2.1 dL_law_653 rfl (lv_at hl 2 rfl) ?_
  refine la_arg 1 B w1.2.2.2.1 hl hi (by decide) dL_law_654 dL_law_655 dL_law_656 dL_law_657 dL_law_658 ?_
  refine la_call (As := [.int (xs (i + 1))]) (n := 1) (st := [.int o]) (v := o) (h' := hm2) (r' := RM) B w2 w1 dj.sy (kX6_still wfm rfl e2) gL_law_X6_still rfl ⟨rfl, rfl⟩ ⟨rfl, hdX6_still⟩ ⟨Nat.le_of_ble_eq_true rfl, Nat.le_of_ble_eq_true rfl⟩ cf6 rfl rfl rfl hl.1 rfl (Nat.le_of_ble_eq_true rfl) dL_law_659 (fun H2 locs2 w2 w1 => ?_)
  refine la_eq B dL_law_662 (by decide) ?_
  exact kk w hx2 hm2 H2 locs2 ⟨w1, w2, dj, iv2⟩
theorem lc_parts (B : LB p s m c b L xs) (hi : i + 4 ≤ L ∧ L ≤ 256) (hn : 1100 ≤ n) (st : LSt s D X Y H locs w hx hm) (hl : lv_has ls 4 (LL b X Y i)) (kk : ∀ (w : Bool) (hx hm : Hp) (H : Heap) (locs : List Jvm.Loc), LSt s D X Y H locs w hx hm → W p l e room_1 s m #[Value.ref b] below meth c H locs 58 2078 Q (F0 m 1223 ls [])) : W p l e room_1 s m #[Value.ref b] below meth c H locs 58 2078 Q (F0 m 667 ls []) := by
  obtain ⟨w1, w2, dj, iv⟩ := st
  obtain ⟨o, hx2, hm2, e1, e2, iv2⟩ := sim_parts (n := n) iv (xs (i + 1)) (Nat.le_trans (by decide) hn)
  refine lv_aload_n B.1 B.2.1 dL_law_667 rfl (lv_at hl 1 rfl) ?_
  refine la_arg 1 B w1.2.2.2.1 hl hi (by decide) dL_law_668 dL_law_669 dL_law_670 dL_law_671 dL_law_672 ?_
  refine la_call (As := [.int (xs (i + 1))]) (n := 1) (st := []) (v := o) (h' := hx2) (r' := RX w) B w1 w2 dj (kX5_parts (wfx w) rfl e1) gL_law_X5_parts rfl ⟨rfl, rfl⟩ ⟨rfl, hdX5_parts⟩ ⟨Nat.le_of_ble_eq_true rfl, Nat.le_of_ble_eq_true rfl⟩ cf5 rfl rfl rfl hl.1 rfl (Nat.le_of_ble_eq_true rfl) dL_law_673 (fun H1 locs1 w1 w2 => ?_)
  refine lv_aload_n B.1 B.2.1 dL_law_676 rfl (lv_at hl 2 rfl) ?_
  refine la_arg 1 B w1.2.2.2.1 hl hi (by decide) dL_law_677 dL_law_678 dL_law_679 dL_law_680 dL_law_681 ?_
  refine la_call (As := [.int (xs (i + 1))]) (n := 1) (st := [.int o]) (v := o) (h' := hm2) (r' := RM) B w2 w1 dj.sy (kX6_parts wfm rfl e2) gL_law_X6_parts rfl ⟨rfl, rfl⟩ ⟨rfl, hdX6_parts⟩ ⟨Nat.le_of_ble_eq_true rfl, Nat.le_of_ble_eq_true rfl⟩ cf6 rfl rfl rfl hl.1 rfl (Nat.le_of_ble_eq_true rfl) dL_law_682 (fun H2 locs2 w2 w1 => ?_)
  refine la_eq B dL_law_685 (by decide) ?_
  exact kk w hx2 hm2 H2 locs2 ⟨w1, w2, dj, iv2⟩
end LAWC0
