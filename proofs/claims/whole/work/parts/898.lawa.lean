set_option maxHeartbeats 4000000 in
set_option maxRecDepth 100000 in
theorem law_feed {p : Program} {l : Launch} {e : Env} {s : State} {m : MethodId} {below : List Frame} {meth : Method} {c : Code} {b L : Nat} {xs : Nat → Int32} {D : va_G} {K : Nat → ClassId} {adK adV : Nat → Nat} {tF sa : Nat} (X : LCx p l s m c b L xs D K adK adV tF sa) {i : Nat} (hi : i + 6 ≤ L) (nx : LGo p l e s m below meth c b D K 2154 i 6) : LGo p l e s m below meth c b D K 280 i 0 := by
  obtain ⟨hx, hb, hml, hown, hts, hX, hbl, hK, hZ, hZl, hlf, hL⟩ := X
  intro a S H locs ls cells slots hc hs hE hP hD hS hl
  have hA : ∀ q : Nat, s.heap.size ≤ q → (fun q : Nat => s.heap.size ≤ q) q := fun _ h => h
  have hbA : ¬ (fun q : Nat => s.heap.size ≤ q) b := Nat.not_le.mpr hbl
  have hcs := lroom hc hs (by omega)
  obtain ⟨v, sMn1, f1, sMo1, g1, g2, R1⟩ := S_feed (F := FF) (Nat.le_of_ble_eq_true rfl) hE (xs (i + 1)) (xs (i + 2)) (xs (i + 3)) (xs (i + 4)) (xs (i + 5))
  refine lv_aload_n hx hb dL_law_280 rfl (lv_at hl 1 rfl) ?_
  refine sc_row hx hb hX hbl hbA hS (lv_at hl 0 rfl) (lv_at hl 4 rfl) hi hL (k := 1) (by decide) dL_law_281 dL_law_282 dL_law_284 rfl dL_law_285 dL_law_286 ?_
  refine sc_row hx hb hX hbl hbA hS (lv_at hl 0 rfl) (lv_at hl 4 rfl) hi hL (k := 2) (by decide) dL_law_287 dL_law_288 dL_law_290 rfl dL_law_291 dL_law_292 ?_
  refine sc_row hx hb hX hbl hbA hS (lv_at hl 0 rfl) (lv_at hl 4 rfl) hi hL (k := 3) (by decide) dL_law_293 dL_law_294 dL_law_296 rfl dL_law_297 dL_law_298 ?_
  refine sc_row hx hb hX hbl hbA hS (lv_at hl 0 rfl) (lv_at hl 4 rfl) hi hL (k := 4) (by decide) dL_law_299 dL_law_300 dL_law_302 rfl dL_law_303 dL_law_304 ?_
  refine sc_row hx hb hX hbl hbA hS (lv_at hl 0 rfl) (lv_at hl 4 rfl) hi hL (k := 5) (by decide) dL_law_305 dL_law_306 dL_law_308 rfl dL_law_309 dL_law_310 ?_
  refine rk_Vi (wn := (wL K a (uN (uN S 0 sMn1) 17 (wA ((uN S 0 sMn1) 17) 0 f1))).flatten) (wL K a S) [wMn K (a 0) (a 17 0) (a 18 99) (a 19 99) (a 1 99) (a 2 99) (a 5 99) (a 9 99) (a 11 99) (a 12 99) (a 16 99) (S 0), wAB K (a 17 0) 800 ((S 17).2.2.1 0)] [wMn K (a 0) (a 17 0) (a 18 99) (a 19 99) (a 1 99) (a 2 99) (a 5 99) (a 9 99) (a 11 99) (a 12 99) (a 16 99) sMn1, wAB K (a 17 0) 800 f1] (wL K a (uN (uN S 0 sMn1) 17 (wA ((uN S 0 sMn1) 17) 0 f1))) (As := [.int (xs (i + 1)), .int (xs (i + 2)), .int (xs (i + 3)), .int (xs (i + 4)), .int (xs (i + 5))]) (rest := []) ⟨hx, hb, hml, hown, hts⟩ (c_X10_feed l D K FF (a 0) (a 18 99) (a 19 99) (a 1 99) (a 2 99) (a 5 99) (a 9 99) (a 11 99) (a 12 99) (a 16 99) (a 17 0) 800 H.size (S 0) ((S 17).2.2.1 0) (xs (i + 1)) (xs (i + 2)) (xs (i + 3)) (xs (i + 4)) (xs (i + 5)) (v, sMn1, f1) g1) (cwV 5 hts (gcV_X10_feed (mB6 _ (List.mem_of_getElem? (i := 18) rfl))) rfl rfl rfl hdV_X10_feed ⟨(Nat.le_of_ble_eq_true rfl), (Nat.le_of_ble_eq_true rfl)⟩) hK hP hD hS hA [0, 17] rfl rfl (by decide) (fl2 _ _) (fl2 _ _) rfl rfl rfl (va_recv hK (va_PL (cc := [wMn K (a 0) (a 17 0) (a 18 99) (a 19 99) (a 1 99) (a 2 99) (a 5 99) (a 9 99) (a 11 99) (a 12 99) (a 16 99) (S 0)]) hP rfl [0] rfl (fl1 _)) (ci := 9) (q0 := 0) rfl o_Mn) rfl hl.1 rfl (Nat.le_of_ble_eq_true rfl) dL_law_311 hcs (fun H locs hP hD hS => ?_)
  refine lv_aload_n hx hb dL_law_314 rfl (lv_at hl 2 rfl) ?_
  refine sc_row hx hb hX hbl hbA hS (lv_at hl 0 rfl) (lv_at hl 4 rfl) hi hL (k := 1) (by decide) dL_law_315 dL_law_316 dL_law_318 rfl dL_law_319 dL_law_320 ?_
  refine sc_row hx hb hX hbl hbA hS (lv_at hl 0 rfl) (lv_at hl 4 rfl) hi hL (k := 2) (by decide) dL_law_321 dL_law_322 dL_law_324 rfl dL_law_325 dL_law_326 ?_
  refine sc_row hx hb hX hbl hbA hS (lv_at hl 0 rfl) (lv_at hl 4 rfl) hi hL (k := 3) (by decide) dL_law_327 dL_law_328 dL_law_330 rfl dL_law_331 dL_law_332 ?_
  refine sc_row hx hb hX hbl hbA hS (lv_at hl 0 rfl) (lv_at hl 4 rfl) hi hL (k := 4) (by decide) dL_law_333 dL_law_334 dL_law_336 rfl dL_law_337 dL_law_338 ?_
  refine sc_row hx hb hX hbl hbA hS (lv_at hl 0 rfl) (lv_at hl 4 rfl) hi hL (k := 5) (by decide) dL_law_339 dL_law_340 dL_law_342 rfl dL_law_343 dL_law_344 ?_
  refine rk_Vi (wn := (wL K a (uN (uN (uN S 0 sMn1) 17 (wA ((uN S 0 sMn1) 17) 0 f1)) 20 sMo1)).flatten) (wL K a (uN (uN S 0 sMn1) 17 (wA ((uN S 0 sMn1) 17) 0 f1))) [wMo K (a 20) ((uN (uN S 0 sMn1) 17 (wA ((uN S 0 sMn1) 17) 0 f1)) 20)] [wMo K (a 20) sMo1] (wL K a (uN (uN (uN S 0 sMn1) 17 (wA ((uN S 0 sMn1) 17) 0 f1)) 20 sMo1)) (As := [.int (xs (i + 1)), .int (xs (i + 2)), .int (xs (i + 3)), .int (xs (i + 4)), .int (xs (i + 5))]) (rest := [.int v]) ⟨hx, hb, hml, hown, hts⟩ (c_X11_feed l D K FF (a 20) H.size ((uN (uN S 0 sMn1) 17 (wA ((uN S 0 sMn1) 17) 0 f1)) 20) (xs (i + 1)) (xs (i + 2)) (xs (i + 3)) (xs (i + 4)) (xs (i + 5)) (v, sMo1) g2) (cwV 5 hts (gcV_X11_feed (mB7 _ (List.mem_of_getElem? (i := 3) rfl))) rfl rfl rfl hdV_X11_feed ⟨(Nat.le_of_ble_eq_true rfl), (Nat.le_of_ble_eq_true rfl)⟩) hK hP hD hS hA [20] rfl rfl (by decide) (fl1 _) (fl1 _) rfl rfl rfl (va_recv hK (va_PL (cc := [wMo K (a 20) ((uN (uN S 0 sMn1) 17 (wA ((uN S 0 sMn1) 17) 0 f1)) 20)]) hP rfl [20] rfl (fl1 _)) (ci := 10) (q0 := 0) rfl o_Mo) rfl hl.1 rfl (Nat.le_of_ble_eq_true rfl) dL_law_345 hcs (fun H locs hP hD hS => ?_)
  refine lv_icmp_eq (tgt := 2154) hx hb dL_law_348 (by decide) (fun _ => ?_) (fun c1 => absurd rfl c1)
  exact nx a (uN (uN (uN S 0 sMn1) 17 (wA ((uN S 0 sMn1) 17) 0 f1)) 20 sMo1) H locs ls cells slots (by omega) (by omega) R1 hP hD hS hl

set_option maxHeartbeats 4000000 in
set_option maxRecDepth 100000 in
theorem law_fault {p : Program} {l : Launch} {e : Env} {s : State} {m : MethodId} {below : List Frame} {meth : Method} {c : Code} {b L : Nat} {xs : Nat → Int32} {D : va_G} {K : Nat → ClassId} {adK adV : Nat → Nat} {tF sa : Nat} (X : LCx p l s m c b L xs D K adK adV tF sa) {i : Nat} (hi : i + 6 ≤ L) (nx : LGo p l e s m below meth c b D K 2154 i 6) : LGo p l e s m below meth c b D K 378 i 0 := by
  obtain ⟨hx, hb, hml, hown, hts, hX, hbl, hK, hZ, hZl, hlf, hL⟩ := X
  intro a S H locs ls cells slots hc hs hE hP hD hS hl
  have hA : ∀ q : Nat, s.heap.size ≤ q → (fun q : Nat => s.heap.size ≤ q) q := fun _ h => h
  have hbA : ¬ (fun q : Nat => s.heap.size ≤ q) b := Nat.not_le.mpr hbl
  have hcs := lroom hc hs (by omega)
  obtain ⟨v, g1, g2⟩ := S_fault (F := FF) hE
  have R1 := REL_0 hE 0
  refine lv_aload_n hx hb dL_law_378 rfl (lv_at hl 1 rfl) ?_
  refine ro_Vi (As := []) (rest := []) ⟨hx, hb, hml, hown, hts⟩ (c_X10_fault l D K FF (a 0) (a 17 0) (a 18 99) (a 19 99) (a 1 99) (a 2 99) (a 5 99) (a 9 99) (a 11 99) (a 12 99) (a 16 99) (S 0) v g1) (cwV 0 hts (gcV_X10_fault (mB23 _ (List.mem_of_getElem? (i := 17) rfl))) rfl rfl rfl hdV_X10_fault ⟨(Nat.le_of_ble_eq_true rfl), (Nat.le_of_ble_eq_true rfl)⟩) hK hP hS (va_PL (cc := [wMn K (a 0) (a 17 0) (a 18 99) (a 19 99) (a 1 99) (a 2 99) (a 5 99) (a 9 99) (a 11 99) (a 12 99) (a 16 99) (S 0)]) hP rfl [0] rfl (fl1 _)) (va_recv hK (va_PL (cc := [wMn K (a 0) (a 17 0) (a 18 99) (a 19 99) (a 1 99) (a 2 99) (a 5 99) (a 9 99) (a 11 99) (a 12 99) (a 16 99) (S 0)]) hP rfl [0] rfl (fl1 _)) (ci := 9) (q0 := 0) rfl o_Mn) rfl hl.1 rfl (Nat.le_of_ble_eq_true rfl) dL_law_379 hcs (fun H locs hP hS => ?_)
  refine lv_aload_n hx hb dL_law_382 rfl (lv_at hl 2 rfl) ?_
  refine rk_Vi (wn := (wL K a (uN S 20 (sI (S 20) 0 0))).flatten) (wL K a S) [wMo K (a 20) (S 20)] [wMo K (a 20) (sI (S 20) 0 0)] (wL K a (uN S 20 (sI (S 20) 0 0))) (As := []) (rest := [.int v]) ⟨hx, hb, hml, hown, hts⟩ (c_X11_fault l D K FF (a 20) H.size (S 20) (v, sI (S 20) 0 0) g2) (cwV 0 hts (gcV_X11_fault (mB23 _ (List.mem_of_getElem? (i := 21) rfl))) rfl rfl rfl hdV_X11_fault ⟨(Nat.le_of_ble_eq_true rfl), (Nat.le_of_ble_eq_true rfl)⟩) hK hP hD hS hA [20] rfl rfl (by decide) (fl1 _) (fl1 _) rfl rfl rfl (va_recv hK (va_PL (cc := [wMo K (a 20) (S 20)]) hP rfl [20] rfl (fl1 _)) (ci := 10) (q0 := 0) rfl o_Mo) rfl hl.1 rfl (Nat.le_of_ble_eq_true rfl) dL_law_383 hcs (fun H locs hP hD hS => ?_)
  refine lv_icmp_eq (tgt := 2154) hx hb dL_law_386 (by decide) (fun _ => ?_) (fun c1 => absurd rfl c1)
  exact nx a (uN S 20 (sI (S 20) 0 0)) H locs ls cells slots (by omega) (by omega) R1 hP hD hS hl

set_option maxHeartbeats 4000000 in
set_option maxRecDepth 100000 in
theorem law_where {p : Program} {l : Launch} {e : Env} {s : State} {m : MethodId} {below : List Frame} {meth : Method} {c : Code} {b L : Nat} {xs : Nat → Int32} {D : va_G} {K : Nat → ClassId} {adK adV : Nat → Nat} {tF sa : Nat} (X : LCx p l s m c b L xs D K adK adV tF sa) {i : Nat} (hi : i + 6 ≤ L) (nx : LGo p l e s m below meth c b D K 2154 i 6) : LGo p l e s m below meth c b D K 391 i 0 := by
  obtain ⟨hx, hb, hml, hown, hts, hX, hbl, hK, hZ, hZl, hlf, hL⟩ := X
  intro a S H locs ls cells slots hc hs hE hP hD hS hl
  have hA : ∀ q : Nat, s.heap.size ≤ q → (fun q : Nat => s.heap.size ≤ q) q := fun _ h => h
  have hbA : ¬ (fun q : Nat => s.heap.size ≤ q) b := Nat.not_le.mpr hbl
  have hcs := lroom hc hs (by omega)
  obtain ⟨v, g1, g2⟩ := S_where (F := FF) hE
  have R1 := REL_0 hE 0
  refine lv_aload_n hx hb dL_law_391 rfl (lv_at hl 1 rfl) ?_
  refine ro_Vi (As := []) (rest := []) ⟨hx, hb, hml, hown, hts⟩ (c_X10_where l D K FF (a 0) (a 17 0) (a 18 99) (a 19 99) (a 1 99) (a 2 99) (a 5 99) (a 9 99) (a 11 99) (a 12 99) (a 16 99) (S 0) v g1) (cwV 0 hts (gcV_X10_where (mB24 _ (List.mem_of_getElem? (i := 1) rfl))) rfl rfl rfl hdV_X10_where ⟨(Nat.le_of_ble_eq_true rfl), (Nat.le_of_ble_eq_true rfl)⟩) hK hP hS (va_PL (cc := [wMn K (a 0) (a 17 0) (a 18 99) (a 19 99) (a 1 99) (a 2 99) (a 5 99) (a 9 99) (a 11 99) (a 12 99) (a 16 99) (S 0)]) hP rfl [0] rfl (fl1 _)) (va_recv hK (va_PL (cc := [wMn K (a 0) (a 17 0) (a 18 99) (a 19 99) (a 1 99) (a 2 99) (a 5 99) (a 9 99) (a 11 99) (a 12 99) (a 16 99) (S 0)]) hP rfl [0] rfl (fl1 _)) (ci := 9) (q0 := 0) rfl o_Mn) rfl hl.1 rfl (Nat.le_of_ble_eq_true rfl) dL_law_392 hcs (fun H locs hP hS => ?_)
  refine lv_aload_n hx hb dL_law_395 rfl (lv_at hl 2 rfl) ?_
  refine rk_Vi (wn := (wL K a (uN S 20 (sI (S 20) 0 0))).flatten) (wL K a S) [wMo K (a 20) (S 20)] [wMo K (a 20) (sI (S 20) 0 0)] (wL K a (uN S 20 (sI (S 20) 0 0))) (As := []) (rest := [.int v]) ⟨hx, hb, hml, hown, hts⟩ (c_X11_where l D K FF (a 20) H.size (S 20) (v, sI (S 20) 0 0) g2) (cwV 0 hts (gcV_X11_where (mB24 _ (List.mem_of_getElem? (i := 5) rfl))) rfl rfl rfl hdV_X11_where ⟨(Nat.le_of_ble_eq_true rfl), (Nat.le_of_ble_eq_true rfl)⟩) hK hP hD hS hA [20] rfl rfl (by decide) (fl1 _) (fl1 _) rfl rfl rfl (va_recv hK (va_PL (cc := [wMo K (a 20) (S 20)]) hP rfl [20] rfl (fl1 _)) (ci := 10) (q0 := 0) rfl o_Mo) rfl hl.1 rfl (Nat.le_of_ble_eq_true rfl) dL_law_396 hcs (fun H locs hP hD hS => ?_)
  refine lv_icmp_eq (tgt := 2154) hx hb dL_law_399 (by decide) (fun _ => ?_) (fun c1 => absurd rfl c1)
  exact nx a (uN S 20 (sI (S 20) 0 0)) H locs ls cells slots (by omega) (by omega) R1 hP hD hS hl

set_option maxHeartbeats 4000000 in
set_option maxRecDepth 100000 in
theorem law_takes {p : Program} {l : Launch} {e : Env} {s : State} {m : MethodId} {below : List Frame} {meth : Method} {c : Code} {b L : Nat} {xs : Nat → Int32} {D : va_G} {K : Nat → ClassId} {adK adV : Nat → Nat} {tF sa : Nat} (X : LCx p l s m c b L xs D K adK adV tF sa) {i : Nat} (hi : i + 6 ≤ L) (nx : LGo p l e s m below meth c b D K 2154 i 6) : LGo p l e s m below meth c b D K 404 i 0 := by
  obtain ⟨hx, hb, hml, hown, hts, hX, hbl, hK, hZ, hZl, hlf, hL⟩ := X
  intro a S H locs ls cells slots hc hs hE hP hD hS hl
  have hA : ∀ q : Nat, s.heap.size ≤ q → (fun q : Nat => s.heap.size ≤ q) q := fun _ h => h
  have hbA : ¬ (fun q : Nat => s.heap.size ≤ q) b := Nat.not_le.mpr hbl
  have hcs := lroom hc hs (by omega)
  obtain ⟨v, sMn1, sMo1, g1, g2, tt⟩ := P_takes (F := FF) (sMn := (S 0)) (sRo := (S 18)) (sMo := (S 20)) hE.1 hE.2.1 (xs (i + 1)) (xs (i + 2)) (bz (xs (i + 3)))
  have R1 := REL_T hE tt (n4_takes _ g1)
  refine lv_aload_n hx hb dL_law_404 rfl (lv_at hl 1 rfl) ?_
  refine sc_row hx hb hX hbl hbA hS (lv_at hl 0 rfl) (lv_at hl 4 rfl) hi hL (k := 1) (by decide) dL_law_405 dL_law_406 dL_law_408 rfl dL_law_409 dL_law_410 ?_
  refine sc_row hx hb hX hbl hbA hS (lv_at hl 0 rfl) (lv_at hl 4 rfl) hi hL (k := 2) (by decide) dL_law_411 dL_law_412 dL_law_414 rfl dL_law_415 dL_law_416 ?_
  refine sc_row hx hb hX hbl hbA hS (lv_at hl 0 rfl) (lv_at hl 4 rfl) hi hL (k := 3) (by decide) dL_law_417 dL_law_418 dL_law_420 rfl dL_law_421 dL_law_422 ?_
  refine bz_row hx hb dL_law_423 (by decide) dL_law_426 dL_law_427 (by decide) dL_law_430 ?_
  refine rk_Vi (wn := (wL K a (uN S 0 sMn1)).flatten) (wL K a S) [wMn K (a 0) (a 17 0) (a 18 99) (a 19 99) (a 1 99) (a 2 99) (a 5 99) (a 9 99) (a 11 99) (a 12 99) (a 16 99) (S 0), wRo K (a 18) (S 18)] [wMn K (a 0) (a 17 0) (a 18 99) (a 19 99) (a 1 99) (a 2 99) (a 5 99) (a 9 99) (a 11 99) (a 12 99) (a 16 99) sMn1, wRo K (a 18) (S 18)] (wL K a (uN S 0 sMn1)) (As := [.int (xs (i + 1)), .int (xs (i + 2)), .int (bz (xs (i + 3)))]) (rest := []) ⟨hx, hb, hml, hown, hts⟩ (c_X10_takes l D K FF (a 0) (a 17 0) (a 19 99) (a 1 99) (a 2 99) (a 5 99) (a 9 99) (a 11 99) (a 12 99) (a 16 99) (a 18) H.size (S 0) (S 18) (xs (i + 1)) (xs (i + 2)) (bz (xs (i + 3))) (v, sMn1) g1) (cwV 3 hts (gcV_X10_takes (mB24 _ (List.mem_of_getElem? (i := 9) rfl))) rfl rfl rfl hdV_X10_takes ⟨(Nat.le_of_ble_eq_true rfl), (Nat.le_of_ble_eq_true rfl)⟩) hK hP hD hS hA [0, 18] rfl rfl (by decide) (fl2 _ _) (fl2 _ _) rfl rfl rfl (va_recv hK (va_PL (cc := [wMn K (a 0) (a 17 0) (a 18 99) (a 19 99) (a 1 99) (a 2 99) (a 5 99) (a 9 99) (a 11 99) (a 12 99) (a 16 99) (S 0)]) hP rfl [0] rfl (fl1 _)) (ci := 9) (q0 := 0) rfl o_Mn) rfl hl.1 rfl (Nat.le_of_ble_eq_true rfl) dL_law_431 hcs (fun H locs hP hD hS => ?_)
  refine lv_aload_n hx hb dL_law_434 rfl (lv_at hl 2 rfl) ?_
  refine sc_row hx hb hX hbl hbA hS (lv_at hl 0 rfl) (lv_at hl 4 rfl) hi hL (k := 1) (by decide) dL_law_435 dL_law_436 dL_law_438 rfl dL_law_439 dL_law_440 ?_
  refine sc_row hx hb hX hbl hbA hS (lv_at hl 0 rfl) (lv_at hl 4 rfl) hi hL (k := 2) (by decide) dL_law_441 dL_law_442 dL_law_444 rfl dL_law_445 dL_law_446 ?_
  refine sc_row hx hb hX hbl hbA hS (lv_at hl 0 rfl) (lv_at hl 4 rfl) hi hL (k := 3) (by decide) dL_law_447 dL_law_448 dL_law_450 rfl dL_law_451 dL_law_452 ?_
  refine bz_row hx hb dL_law_453 (by decide) dL_law_456 dL_law_457 (by decide) dL_law_460 ?_
  refine rk_Vi (wn := (wL K a (uN (uN S 0 sMn1) 20 sMo1)).flatten) (wL K a (uN S 0 sMn1)) [wMo K (a 20) ((uN S 0 sMn1) 20)] [wMo K (a 20) sMo1] (wL K a (uN (uN S 0 sMn1) 20 sMo1)) (As := [.int (xs (i + 1)), .int (xs (i + 2)), .int (bz (xs (i + 3)))]) (rest := [.int v]) ⟨hx, hb, hml, hown, hts⟩ (c_X11_takes l D K FF (a 20) H.size ((uN S 0 sMn1) 20) (xs (i + 1)) (xs (i + 2)) (bz (xs (i + 3))) (v, sMo1) g2) (cwV 3 hts (gcV_X11_takes (mB25 _ (List.mem_of_getElem? (i := 3) rfl))) rfl rfl rfl hdV_X11_takes ⟨(Nat.le_of_ble_eq_true rfl), (Nat.le_of_ble_eq_true rfl)⟩) hK hP hD hS hA [20] rfl rfl (by decide) (fl1 _) (fl1 _) rfl rfl rfl (va_recv hK (va_PL (cc := [wMo K (a 20) ((uN S 0 sMn1) 20)]) hP rfl [20] rfl (fl1 _)) (ci := 10) (q0 := 0) rfl o_Mo) rfl hl.1 rfl (Nat.le_of_ble_eq_true rfl) dL_law_461 hcs (fun H locs hP hD hS => ?_)
  refine lv_icmp_eq (tgt := 2154) hx hb dL_law_464 (by decide) (fun _ => ?_) (fun c1 => absurd rfl c1)
  exact nx a (uN (uN S 0 sMn1) 20 sMo1) H locs ls cells slots (by omega) (by omega) R1 hP hD hS hl

set_option maxHeartbeats 4000000 in
set_option maxRecDepth 100000 in
theorem law_pump {p : Program} {l : Launch} {e : Env} {s : State} {m : MethodId} {below : List Frame} {meth : Method} {c : Code} {b L : Nat} {xs : Nat → Int32} {D : va_G} {K : Nat → ClassId} {adK adV : Nat → Nat} {tF sa : Nat} (X : LCx p l s m c b L xs D K adK adV tF sa) {i : Nat} (hi : i + 6 ≤ L) (nx : LGo p l e s m below meth c b D K 2154 i 6) : LGo p l e s m below meth c b D K 469 i 0 := by
  obtain ⟨hx, hb, hml, hown, hts, hX, hbl, hK, hZ, hZl, hlf, hL⟩ := X
  intro a S H locs ls cells slots hc hs hE hP hD hS hl
  have hA : ∀ q : Nat, s.heap.size ≤ q → (fun q : Nat => s.heap.size ≤ q) q := fun _ h => h
  have hbA : ¬ (fun q : Nat => s.heap.size ≤ q) b := Nat.not_le.mpr hbl
  have hcs := lroom hc hs (by omega)
  obtain ⟨v, sMn1, sMo1, g1, g2, tt⟩ := P_pump (F := FF) (sMn := (S 0)) (sRo := (S 18)) (sMo := (S 20)) hE.1 hE.2.1 (xs (i + 1)) (xs (i + 2))
  have R1 := REL_T hE tt (n4_pump _ g1)
  refine lv_aload_n hx hb dL_law_469 rfl (lv_at hl 1 rfl) ?_
  refine sc_row hx hb hX hbl hbA hS (lv_at hl 0 rfl) (lv_at hl 4 rfl) hi hL (k := 1) (by decide) dL_law_470 dL_law_471 dL_law_473 rfl dL_law_474 dL_law_475 ?_
  refine sc_row hx hb hX hbl hbA hS (lv_at hl 0 rfl) (lv_at hl 4 rfl) hi hL (k := 2) (by decide) dL_law_476 dL_law_477 dL_law_479 rfl dL_law_480 dL_law_481 ?_
  refine rk_Vi (wn := (wL K a (uN S 0 sMn1)).flatten) (wL K a S) [wMn K (a 0) (a 17 0) (a 18 99) (a 19 99) (a 1 99) (a 2 99) (a 5 99) (a 9 99) (a 11 99) (a 12 99) (a 16 99) (S 0), wRo K (a 18) (S 18)] [wMn K (a 0) (a 17 0) (a 18 99) (a 19 99) (a 1 99) (a 2 99) (a 5 99) (a 9 99) (a 11 99) (a 12 99) (a 16 99) sMn1, wRo K (a 18) (S 18)] (wL K a (uN S 0 sMn1)) (As := [.int (xs (i + 1)), .int (xs (i + 2))]) (rest := []) ⟨hx, hb, hml, hown, hts⟩ (c_X10_pump l D K FF (a 0) (a 17 0) (a 19 99) (a 1 99) (a 2 99) (a 5 99) (a 9 99) (a 11 99) (a 12 99) (a 16 99) (a 18) H.size (S 0) (S 18) (xs (i + 1)) (xs (i + 2)) (v, sMn1) g1) (cwV 2 hts (gcV_X10_pump (mB25 _ (List.mem_of_getElem? (i := 15) rfl))) rfl rfl rfl hdV_X10_pump ⟨(Nat.le_of_ble_eq_true rfl), (Nat.le_of_ble_eq_true rfl)⟩) hK hP hD hS hA [0, 18] rfl rfl (by decide) (fl2 _ _) (fl2 _ _) rfl rfl rfl (va_recv hK (va_PL (cc := [wMn K (a 0) (a 17 0) (a 18 99) (a 19 99) (a 1 99) (a 2 99) (a 5 99) (a 9 99) (a 11 99) (a 12 99) (a 16 99) (S 0)]) hP rfl [0] rfl (fl1 _)) (ci := 9) (q0 := 0) rfl o_Mn) rfl hl.1 rfl (Nat.le_of_ble_eq_true rfl) dL_law_482 hcs (fun H locs hP hD hS => ?_)
  refine lv_aload_n hx hb dL_law_485 rfl (lv_at hl 2 rfl) ?_
  refine sc_row hx hb hX hbl hbA hS (lv_at hl 0 rfl) (lv_at hl 4 rfl) hi hL (k := 1) (by decide) dL_law_486 dL_law_487 dL_law_489 rfl dL_law_490 dL_law_491 ?_
  refine sc_row hx hb hX hbl hbA hS (lv_at hl 0 rfl) (lv_at hl 4 rfl) hi hL (k := 2) (by decide) dL_law_492 dL_law_493 dL_law_495 rfl dL_law_496 dL_law_497 ?_
  refine rk_Vi (wn := (wL K a (uN (uN S 0 sMn1) 20 sMo1)).flatten) (wL K a (uN S 0 sMn1)) [wMo K (a 20) ((uN S 0 sMn1) 20)] [wMo K (a 20) sMo1] (wL K a (uN (uN S 0 sMn1) 20 sMo1)) (As := [.int (xs (i + 1)), .int (xs (i + 2))]) (rest := [.int v]) ⟨hx, hb, hml, hown, hts⟩ (c_X11_pump l D K FF (a 20) H.size ((uN S 0 sMn1) 20) (xs (i + 1)) (xs (i + 2)) (v, sMo1) g2) (cwV 2 hts (gcV_X11_pump (mB25 _ (List.mem_of_getElem? (i := 22) rfl))) rfl rfl rfl hdV_X11_pump ⟨(Nat.le_of_ble_eq_true rfl), (Nat.le_of_ble_eq_true rfl)⟩) hK hP hD hS hA [20] rfl rfl (by decide) (fl1 _) (fl1 _) rfl rfl rfl (va_recv hK (va_PL (cc := [wMo K (a 20) ((uN S 0 sMn1) 20)]) hP rfl [20] rfl (fl1 _)) (ci := 10) (q0 := 0) rfl o_Mo) rfl hl.1 rfl (Nat.le_of_ble_eq_true rfl) dL_law_498 hcs (fun H locs hP hD hS => ?_)
  refine lv_icmp_eq (tgt := 2154) hx hb dL_law_501 (by decide) (fun _ => ?_) (fun c1 => absurd rfl c1)
  exact nx a (uN (uN S 0 sMn1) 20 sMo1) H locs ls cells slots (by omega) (by omega) R1 hP hD hS hl

set_option maxHeartbeats 4000000 in
set_option maxRecDepth 100000 in
theorem law_station {p : Program} {l : Launch} {e : Env} {s : State} {m : MethodId} {below : List Frame} {meth : Method} {c : Code} {b L : Nat} {xs : Nat → Int32} {D : va_G} {K : Nat → ClassId} {adK adV : Nat → Nat} {tF sa : Nat} (X : LCx p l s m c b L xs D K adK adV tF sa) {i : Nat} (hi : i + 6 ≤ L) (nx : LGo p l e s m below meth c b D K 2154 i 6) : LGo p l e s m below meth c b D K 506 i 0 := by
  obtain ⟨hx, hb, hml, hown, hts, hX, hbl, hK, hZ, hZl, hlf, hL⟩ := X
  intro a S H locs ls cells slots hc hs hE hP hD hS hl
  have hA : ∀ q : Nat, s.heap.size ≤ q → (fun q : Nat => s.heap.size ≤ q) q := fun _ h => h
  have hbA : ¬ (fun q : Nat => s.heap.size ≤ q) b := Nat.not_le.mpr hbl
  have hcs := lroom hc hs (by omega)
  obtain ⟨v, sMn1, sMo1, g1, g2, tt⟩ := P_station (F := FF) (sMn := (S 0)) (sRo := (S 18)) (sMo := (S 20)) hE.1 hE.2.1 (xs (i + 1))
  have R1 := REL_T hE tt (n4_station _ g1)
  refine lv_aload_n hx hb dL_law_506 rfl (lv_at hl 1 rfl) ?_
  refine sc_row hx hb hX hbl hbA hS (lv_at hl 0 rfl) (lv_at hl 4 rfl) hi hL (k := 1) (by decide) dL_law_507 dL_law_508 dL_law_510 rfl dL_law_511 dL_law_512 ?_
  refine rk_Vi (wn := (wL K a (uN S 0 sMn1)).flatten) (wL K a S) [wMn K (a 0) (a 17 0) (a 18 99) (a 19 99) (a 1 99) (a 2 99) (a 5 99) (a 9 99) (a 11 99) (a 12 99) (a 16 99) (S 0), wRo K (a 18) (S 18)] [wMn K (a 0) (a 17 0) (a 18 99) (a 19 99) (a 1 99) (a 2 99) (a 5 99) (a 9 99) (a 11 99) (a 12 99) (a 16 99) sMn1, wRo K (a 18) (S 18)] (wL K a (uN S 0 sMn1)) (As := [.int (xs (i + 1))]) (rest := []) ⟨hx, hb, hml, hown, hts⟩ (c_X10_station l D K FF (a 0) (a 17 0) (a 19 99) (a 1 99) (a 2 99) (a 5 99) (a 9 99) (a 11 99) (a 12 99) (a 16 99) (a 18) H.size (S 0) (S 18) (xs (i + 1)) (v, sMn1) g1) (cwV 1 hts (gcV_X10_station (mB26 _ (List.mem_of_getElem? (i := 2) rfl))) rfl rfl rfl hdV_X10_station ⟨(Nat.le_of_ble_eq_true rfl), (Nat.le_of_ble_eq_true rfl)⟩) hK hP hD hS hA [0, 18] rfl rfl (by decide) (fl2 _ _) (fl2 _ _) rfl rfl rfl (va_recv hK (va_PL (cc := [wMn K (a 0) (a 17 0) (a 18 99) (a 19 99) (a 1 99) (a 2 99) (a 5 99) (a 9 99) (a 11 99) (a 12 99) (a 16 99) (S 0)]) hP rfl [0] rfl (fl1 _)) (ci := 9) (q0 := 0) rfl o_Mn) rfl hl.1 rfl (Nat.le_of_ble_eq_true rfl) dL_law_513 hcs (fun H locs hP hD hS => ?_)
  refine lv_aload_n hx hb dL_law_516 rfl (lv_at hl 2 rfl) ?_
  refine sc_row hx hb hX hbl hbA hS (lv_at hl 0 rfl) (lv_at hl 4 rfl) hi hL (k := 1) (by decide) dL_law_517 dL_law_518 dL_law_520 rfl dL_law_521 dL_law_522 ?_
  refine rk_Vi (wn := (wL K a (uN (uN S 0 sMn1) 20 sMo1)).flatten) (wL K a (uN S 0 sMn1)) [wMo K (a 20) ((uN S 0 sMn1) 20)] [wMo K (a 20) sMo1] (wL K a (uN (uN S 0 sMn1) 20 sMo1)) (As := [.int (xs (i + 1))]) (rest := [.int v]) ⟨hx, hb, hml, hown, hts⟩ (c_X11_station l D K FF (a 20) H.size ((uN S 0 sMn1) 20) (xs (i + 1)) (v, sMo1) g2) (cwV 1 hts (gcV_X11_station (mB26 _ (List.mem_of_getElem? (i := 11) rfl))) rfl rfl rfl hdV_X11_station ⟨(Nat.le_of_ble_eq_true rfl), (Nat.le_of_ble_eq_true rfl)⟩) hK hP hD hS hA [20] rfl rfl (by decide) (fl1 _) (fl1 _) rfl rfl rfl (va_recv hK (va_PL (cc := [wMo K (a 20) ((uN S 0 sMn1) 20)]) hP rfl [20] rfl (fl1 _)) (ci := 10) (q0 := 0) rfl o_Mo) rfl hl.1 rfl (Nat.le_of_ble_eq_true rfl) dL_law_523 hcs (fun H locs hP hD hS => ?_)
  refine lv_icmp_eq (tgt := 2154) hx hb dL_law_526 (by decide) (fun _ => ?_) (fun c1 => absurd rfl c1)
  exact nx a (uN (uN S 0 sMn1) 20 sMo1) H locs ls cells slots (by omega) (by omega) R1 hP hD hS hl

set_option maxHeartbeats 4000000 in
set_option maxRecDepth 100000 in
theorem law_legs {p : Program} {l : Launch} {e : Env} {s : State} {m : MethodId} {below : List Frame} {meth : Method} {c : Code} {b L : Nat} {xs : Nat → Int32} {D : va_G} {K : Nat → ClassId} {adK adV : Nat → Nat} {tF sa : Nat} (X : LCx p l s m c b L xs D K adK adV tF sa) {i : Nat} (hi : i + 6 ≤ L) (nx : LGo p l e s m below meth c b D K 2154 i 6) : LGo p l e s m below meth c b D K 531 i 0 := by
  obtain ⟨hx, hb, hml, hown, hts, hX, hbl, hK, hZ, hZl, hlf, hL⟩ := X
  intro a S H locs ls cells slots hc hs hE hP hD hS hl
  have hA : ∀ q : Nat, s.heap.size ≤ q → (fun q : Nat => s.heap.size ≤ q) q := fun _ h => h
  have hbA : ¬ (fun q : Nat => s.heap.size ≤ q) b := Nat.not_le.mpr hbl
  have hcs := lroom hc hs (by omega)
  obtain ⟨v, sMn1, sMo1, g1, g2, tt⟩ := P_legs (F := FF) (sMn := (S 0)) (sRo := (S 18)) (sMo := (S 20)) (Nat.le_of_ble_eq_true rfl) hE.1 hE.2.1 (xs (i + 1)) (xs (i + 2))
  have R1 := REL_T hE tt (n4_legs _ g1)
  refine lv_aload_n hx hb dL_law_531 rfl (lv_at hl 1 rfl) ?_
  refine sc_row hx hb hX hbl hbA hS (lv_at hl 0 rfl) (lv_at hl 4 rfl) hi hL (k := 1) (by decide) dL_law_532 dL_law_533 dL_law_535 rfl dL_law_536 dL_law_537 ?_
  refine sc_row hx hb hX hbl hbA hS (lv_at hl 0 rfl) (lv_at hl 4 rfl) hi hL (k := 2) (by decide) dL_law_538 dL_law_539 dL_law_541 rfl dL_law_542 dL_law_543 ?_
  refine rk_Vi (wn := (wL K a (uN S 0 sMn1)).flatten) (wL K a S) [wMn K (a 0) (a 17 0) (a 18 99) (a 19 99) (a 1 99) (a 2 99) (a 5 99) (a 9 99) (a 11 99) (a 12 99) (a 16 99) (S 0), wRo K (a 18) (S 18)] [wMn K (a 0) (a 17 0) (a 18 99) (a 19 99) (a 1 99) (a 2 99) (a 5 99) (a 9 99) (a 11 99) (a 12 99) (a 16 99) sMn1, wRo K (a 18) (S 18)] (wL K a (uN S 0 sMn1)) (As := [.int (xs (i + 1)), .int (xs (i + 2))]) (rest := []) ⟨hx, hb, hml, hown, hts⟩ (c_X10_legs l D K FF (a 0) (a 17 0) (a 19 99) (a 1 99) (a 2 99) (a 5 99) (a 9 99) (a 11 99) (a 12 99) (a 16 99) (a 18) H.size (S 0) (S 18) (xs (i + 1)) (xs (i + 2)) (v, sMn1) g1) (cwV 2 hts (gcV_X10_legs (mB26 _ (List.mem_of_getElem? (i := 23) rfl))) rfl rfl rfl hdV_X10_legs ⟨(Nat.le_of_ble_eq_true rfl), (Nat.le_of_ble_eq_true rfl)⟩) hK hP hD hS hA [0, 18] rfl rfl (by decide) (fl2 _ _) (fl2 _ _) rfl rfl rfl (va_recv hK (va_PL (cc := [wMn K (a 0) (a 17 0) (a 18 99) (a 19 99) (a 1 99) (a 2 99) (a 5 99) (a 9 99) (a 11 99) (a 12 99) (a 16 99) (S 0)]) hP rfl [0] rfl (fl1 _)) (ci := 9) (q0 := 0) rfl o_Mn) rfl hl.1 rfl (Nat.le_of_ble_eq_true rfl) dL_law_544 hcs (fun H locs hP hD hS => ?_)
  refine lv_aload_n hx hb dL_law_547 rfl (lv_at hl 2 rfl) ?_
  refine sc_row hx hb hX hbl hbA hS (lv_at hl 0 rfl) (lv_at hl 4 rfl) hi hL (k := 1) (by decide) dL_law_548 dL_law_549 dL_law_551 rfl dL_law_552 dL_law_553 ?_
  refine sc_row hx hb hX hbl hbA hS (lv_at hl 0 rfl) (lv_at hl 4 rfl) hi hL (k := 2) (by decide) dL_law_554 dL_law_555 dL_law_557 rfl dL_law_558 dL_law_559 ?_
  refine rk_Vi (wn := (wL K a (uN (uN S 0 sMn1) 20 sMo1)).flatten) (wL K a (uN S 0 sMn1)) [wMo K (a 20) ((uN S 0 sMn1) 20)] [wMo K (a 20) sMo1] (wL K a (uN (uN S 0 sMn1) 20 sMo1)) (As := [.int (xs (i + 1)), .int (xs (i + 2))]) (rest := [.int v]) ⟨hx, hb, hml, hown, hts⟩ (c_X11_legs l D K FF (a 20) H.size ((uN S 0 sMn1) 20) (xs (i + 1)) (xs (i + 2)) (v, sMo1) g2) (cwV 2 hts (gcV_X11_legs (mB27 _ (List.mem_of_getElem? (i := 7) rfl))) rfl rfl rfl hdV_X11_legs ⟨(Nat.le_of_ble_eq_true rfl), (Nat.le_of_ble_eq_true rfl)⟩) hK hP hD hS hA [20] rfl rfl (by decide) (fl1 _) (fl1 _) rfl rfl rfl (va_recv hK (va_PL (cc := [wMo K (a 20) ((uN S 0 sMn1) 20)]) hP rfl [20] rfl (fl1 _)) (ci := 10) (q0 := 0) rfl o_Mo) rfl hl.1 rfl (Nat.le_of_ble_eq_true rfl) dL_law_560 hcs (fun H locs hP hD hS => ?_)
  refine lv_icmp_eq (tgt := 2154) hx hb dL_law_563 (by decide) (fun _ => ?_) (fun c1 => absurd rfl c1)
  exact nx a (uN (uN S 0 sMn1) 20 sMo1) H locs ls cells slots (by omega) (by omega) R1 hP hD hS hl

set_option maxHeartbeats 4000000 in
set_option maxRecDepth 100000 in
theorem law_lasts {p : Program} {l : Launch} {e : Env} {s : State} {m : MethodId} {below : List Frame} {meth : Method} {c : Code} {b L : Nat} {xs : Nat → Int32} {D : va_G} {K : Nat → ClassId} {adK adV : Nat → Nat} {tF sa : Nat} (X : LCx p l s m c b L xs D K adK adV tF sa) {i : Nat} (hi : i + 6 ≤ L) (nx : LGo p l e s m below meth c b D K 2154 i 6) : LGo p l e s m below meth c b D K 568 i 0 := by
  obtain ⟨hx, hb, hml, hown, hts, hX, hbl, hK, hZ, hZl, hlf, hL⟩ := X
  intro a S H locs ls cells slots hc hs hE hP hD hS hl
  have hA : ∀ q : Nat, s.heap.size ≤ q → (fun q : Nat => s.heap.size ≤ q) q := fun _ h => h
  have hbA : ¬ (fun q : Nat => s.heap.size ≤ q) b := Nat.not_le.mpr hbl
  have hcs := lroom hc hs (by omega)
  obtain ⟨v, sMn1, sMo1, g1, g2, tt⟩ := P_lasts (F := FF) (sMn := (S 0)) (sRo := (S 18)) (sMo := (S 20)) (Nat.le_of_ble_eq_true rfl) hE.1 hE.2.1 (xs (i + 1)) (xs (i + 2))
  have R1 := REL_T hE tt (n4_lasts _ g1)
  refine lv_aload_n hx hb dL_law_568 rfl (lv_at hl 1 rfl) ?_
  refine sc_row hx hb hX hbl hbA hS (lv_at hl 0 rfl) (lv_at hl 4 rfl) hi hL (k := 1) (by decide) dL_law_569 dL_law_570 dL_law_572 rfl dL_law_573 dL_law_574 ?_
  refine sc_row hx hb hX hbl hbA hS (lv_at hl 0 rfl) (lv_at hl 4 rfl) hi hL (k := 2) (by decide) dL_law_575 dL_law_576 dL_law_578 rfl dL_law_579 dL_law_580 ?_
  refine rk_Vi (wn := (wL K a (uN S 0 sMn1)).flatten) (wL K a S) [wMn K (a 0) (a 17 0) (a 18 99) (a 19 99) (a 1 99) (a 2 99) (a 5 99) (a 9 99) (a 11 99) (a 12 99) (a 16 99) (S 0), wRo K (a 18) (S 18)] [wMn K (a 0) (a 17 0) (a 18 99) (a 19 99) (a 1 99) (a 2 99) (a 5 99) (a 9 99) (a 11 99) (a 12 99) (a 16 99) sMn1, wRo K (a 18) (S 18)] (wL K a (uN S 0 sMn1)) (As := [.int (xs (i + 1)), .int (xs (i + 2))]) (rest := []) ⟨hx, hb, hml, hown, hts⟩ (c_X10_lasts l D K FF (a 0) (a 17 0) (a 19 99) (a 1 99) (a 2 99) (a 5 99) (a 9 99) (a 11 99) (a 12 99) (a 16 99) (a 18) H.size (S 0) (S 18) (xs (i + 1)) (xs (i + 2)) (v, sMn1) g1) (cwV 2 hts (gcV_X10_lasts (mB27 _ (List.mem_of_getElem? (i := 19) rfl))) rfl rfl rfl hdV_X10_lasts ⟨(Nat.le_of_ble_eq_true rfl), (Nat.le_of_ble_eq_true rfl)⟩) hK hP hD hS hA [0, 18] rfl rfl (by decide) (fl2 _ _) (fl2 _ _) rfl rfl rfl (va_recv hK (va_PL (cc := [wMn K (a 0) (a 17 0) (a 18 99) (a 19 99) (a 1 99) (a 2 99) (a 5 99) (a 9 99) (a 11 99) (a 12 99) (a 16 99) (S 0)]) hP rfl [0] rfl (fl1 _)) (ci := 9) (q0 := 0) rfl o_Mn) rfl hl.1 rfl (Nat.le_of_ble_eq_true rfl) dL_law_581 hcs (fun H locs hP hD hS => ?_)
  refine lv_aload_n hx hb dL_law_584 rfl (lv_at hl 2 rfl) ?_
  refine sc_row hx hb hX hbl hbA hS (lv_at hl 0 rfl) (lv_at hl 4 rfl) hi hL (k := 1) (by decide) dL_law_585 dL_law_586 dL_law_588 rfl dL_law_589 dL_law_590 ?_
  refine sc_row hx hb hX hbl hbA hS (lv_at hl 0 rfl) (lv_at hl 4 rfl) hi hL (k := 2) (by decide) dL_law_591 dL_law_592 dL_law_594 rfl dL_law_595 dL_law_596 ?_
  refine rk_Vi (wn := (wL K a (uN (uN S 0 sMn1) 20 sMo1)).flatten) (wL K a (uN S 0 sMn1)) [wMo K (a 20) ((uN S 0 sMn1) 20)] [wMo K (a 20) sMo1] (wL K a (uN (uN S 0 sMn1) 20 sMo1)) (As := [.int (xs (i + 1)), .int (xs (i + 2))]) (rest := [.int v]) ⟨hx, hb, hml, hown, hts⟩ (c_X11_lasts l D K FF (a 20) H.size ((uN S 0 sMn1) 20) (xs (i + 1)) (xs (i + 2)) (v, sMo1) g2) (cwV 2 hts (gcV_X11_lasts (mB28 _ (List.mem_of_getElem? (i := 7) rfl))) rfl rfl rfl hdV_X11_lasts ⟨(Nat.le_of_ble_eq_true rfl), (Nat.le_of_ble_eq_true rfl)⟩) hK hP hD hS hA [20] rfl rfl (by decide) (fl1 _) (fl1 _) rfl rfl rfl (va_recv hK (va_PL (cc := [wMo K (a 20) ((uN S 0 sMn1) 20)]) hP rfl [20] rfl (fl1 _)) (ci := 10) (q0 := 0) rfl o_Mo) rfl hl.1 rfl (Nat.le_of_ble_eq_true rfl) dL_law_597 hcs (fun H locs hP hD hS => ?_)
  refine lv_icmp_eq (tgt := 2154) hx hb dL_law_600 (by decide) (fun _ => ?_) (fun c1 => absurd rfl c1)
  exact nx a (uN (uN S 0 sMn1) 20 sMo1) H locs ls cells slots (by omega) (by omega) R1 hP hD hS hl
