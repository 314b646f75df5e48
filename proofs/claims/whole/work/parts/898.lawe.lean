set_option maxHeartbeats 4000000 in
set_option maxRecDepth 100000 in
theorem law_worth {p : Program} {l : Launch} {e : Env} {s : State} {m : MethodId} {below : List Frame} {meth : Method} {c : Code} {b L : Nat} {xs : Nat → Int32} {D : va_G} {K : Nat → ClassId} {adK adV : Nat → Nat} {tF sa : Nat} (X : LCx p l s m c b L xs D K adK adV tF sa) {i : Nat} (hi : i + 6 ≤ L) (nx : LGo p l e s m below meth c b D K 2154 i 6) : LGo p l e s m below meth c b D K 1321 i 0 := by
  obtain ⟨hx, hb, hml, hown, hts, hX, hbl, hK, hZ, hZl, hlf, hL⟩ := X
  intro a S H locs ls cells slots hc hs hE hP hD hS hl
  have hA : ∀ q : Nat, s.heap.size ≤ q → (fun q : Nat => s.heap.size ≤ q) q := fun _ h => h
  have hbA : ¬ (fun q : Nat => s.heap.size ≤ q) b := Nat.not_le.mpr hbl
  have hcs := lroom hc hs (by omega)
  obtain ⟨v, sMn1, sPl1, sPc1, sNe1, sNc1, sMo1, g1, g2, tt, x0⟩ := P_worth (F := FF) (sMn := (S 0)) (sRo := (S 18)) (sPl := (S 2)) (sPc := (S 3)) (sNe := (S 9)) (sNc := (S 10)) (sMo := (S 20)) (Nat.le_of_ble_eq_true rfl) hE.1 hE.2.1
  have R1 := REL_P (REL_U hE tt (n4_worth _ g1)) x0
  refine lv_aload_n hx hb dL_law_1321 rfl (lv_at hl 1 rfl) ?_
  refine rk_Vi (wn := (wL K a (uN (uN (uN (uN (uN S 0 sMn1) 2 sPl1) 3 sPc1) 9 sNe1) 10 sNc1)).flatten) (wL K a S) [wMn K (a 0) (a 17 0) (a 18 99) (a 19 99) (a 1 99) (a 2 99) (a 5 99) (a 9 99) (a 11 99) (a 12 99) (a 16 99) (S 0), wPl K (a 2) (a 3) (a 4) (S 2), wPc K (a 3) (S 3), wNe K (a 9) (a 10) (S 9), wNc K (a 10) (S 10), wRo K (a 18) (S 18)] [wMn K (a 0) (a 17 0) (a 18 99) (a 19 99) (a 1 99) (a 2 99) (a 5 99) (a 9 99) (a 11 99) (a 12 99) (a 16 99) sMn1, wPl K (a 2) (a 3) (a 4) sPl1, wPc K (a 3) sPc1, wNe K (a 9) (a 10) sNe1, wNc K (a 10) sNc1, wRo K (a 18) (S 18)] (wL K a (uN (uN (uN (uN (uN S 0 sMn1) 2 sPl1) 3 sPc1) 9 sNe1) 10 sNc1)) (As := []) (rest := []) ⟨hx, hb, hml, hown, hts⟩ (c_X10_worth l D K FF (a 0) (a 17 0) (a 19 99) (a 1 99) (a 5 99) (a 11 99) (a 12 99) (a 16 99) (a 2) (a 4) (a 3) (a 9) (a 10) (a 18) H.size (S 0) (S 2) (S 3) (S 9) (S 10) (S 18) (v, sMn1, sPl1, sPc1, sNe1, sNc1) g1) (cwV 0 hts (gcV_X10_worth (mB52 _ (List.mem_of_getElem? (i := 6) rfl))) rfl rfl rfl hdV_X10_worth ⟨(Nat.le_of_ble_eq_true rfl), (Nat.le_of_ble_eq_true rfl)⟩) hK hP hD hS hA [0, 2, 3, 9, 10, 18] rfl rfl (by decide) (fl6 _ _ _ _ _ _) (fl6 _ _ _ _ _ _) rfl rfl rfl (va_recv hK (va_PL (cc := [wMn K (a 0) (a 17 0) (a 18 99) (a 19 99) (a 1 99) (a 2 99) (a 5 99) (a 9 99) (a 11 99) (a 12 99) (a 16 99) (S 0)]) hP rfl [0] rfl (fl1 _)) (ci := 9) (q0 := 0) rfl o_Mn) rfl hl.1 rfl (Nat.le_of_ble_eq_true rfl) dL_law_1322 hcs (fun H locs hP hD hS => ?_)
  refine lv_aload_n hx hb dL_law_1325 rfl (lv_at hl 2 rfl) ?_
  refine rk_Vi (wn := (wL K a (uN (uN (uN (uN (uN (uN S 0 sMn1) 2 sPl1) 3 sPc1) 9 sNe1) 10 sNc1) 20 sMo1)).flatten) (wL K a (uN (uN (uN (uN (uN S 0 sMn1) 2 sPl1) 3 sPc1) 9 sNe1) 10 sNc1)) [wMo K (a 20) ((uN (uN (uN (uN (uN S 0 sMn1) 2 sPl1) 3 sPc1) 9 sNe1) 10 sNc1) 20)] [wMo K (a 20) sMo1] (wL K a (uN (uN (uN (uN (uN (uN S 0 sMn1) 2 sPl1) 3 sPc1) 9 sNe1) 10 sNc1) 20 sMo1)) (As := []) (rest := [.int v]) ⟨hx, hb, hml, hown, hts⟩ (c_X11_worth l D K FF (a 20) H.size ((uN (uN (uN (uN (uN S 0 sMn1) 2 sPl1) 3 sPc1) 9 sNe1) 10 sNc1) 20) (v, sMo1) g2) (cwV 0 hts (gcV_X11_worth (mB52 _ (List.mem_of_getElem? (i := 10) rfl))) rfl rfl rfl hdV_X11_worth ⟨(Nat.le_of_ble_eq_true rfl), (Nat.le_of_ble_eq_true rfl)⟩) hK hP hD hS hA [20] rfl rfl (by decide) (fl1 _) (fl1 _) rfl rfl rfl (va_recv hK (va_PL (cc := [wMo K (a 20) ((uN (uN (uN (uN (uN S 0 sMn1) 2 sPl1) 3 sPc1) 9 sNe1) 10 sNc1) 20)]) hP rfl [20] rfl (fl1 _)) (ci := 10) (q0 := 0) rfl o_Mo) rfl hl.1 rfl (Nat.le_of_ble_eq_true rfl) dL_law_1326 hcs (fun H locs hP hD hS => ?_)
  refine lv_icmp_eq (tgt := 2154) hx hb dL_law_1329 (by decide) (fun _ => ?_) (fun c1 => absurd rfl c1)
  exact nx a (uN (uN (uN (uN (uN (uN S 0 sMn1) 2 sPl1) 3 sPc1) 9 sNe1) 10 sNc1) 20 sMo1) H locs ls cells slots (by omega) (by omega) R1 hP hD hS hl

set_option maxHeartbeats 4000000 in
set_option maxRecDepth 100000 in
theorem law_far {p : Program} {l : Launch} {e : Env} {s : State} {m : MethodId} {below : List Frame} {meth : Method} {c : Code} {b L : Nat} {xs : Nat → Int32} {D : va_G} {K : Nat → ClassId} {adK adV : Nat → Nat} {tF sa : Nat} (X : LCx p l s m c b L xs D K adK adV tF sa) {i : Nat} (hi : i + 6 ≤ L) (nx : LGo p l e s m below meth c b D K 2154 i 6) : LGo p l e s m below meth c b D K 1334 i 0 := by
  obtain ⟨hx, hb, hml, hown, hts, hX, hbl, hK, hZ, hZl, hlf, hL⟩ := X
  intro a S H locs ls cells slots hc hs hE hP hD hS hl
  have hA : ∀ q : Nat, s.heap.size ≤ q → (fun q : Nat => s.heap.size ≤ q) q := fun _ h => h
  have hbA : ¬ (fun q : Nat => s.heap.size ≤ q) b := Nat.not_le.mpr hbl
  have hcs := lroom hc hs (by omega)
  obtain ⟨v, sMn1, sFr1, sMo1, g1, g2, tt⟩ := P_far (F := FF) (sMn := (S 0)) (sRo := (S 18)) (sFr := (S 16)) (sMo := (S 20)) (Nat.le_of_ble_eq_true rfl) hE.1 hE.2.1 (xs (i + 1)) (bz (xs (i + 2))) (bz (xs (i + 3)))
  have R1 := REL_U hE tt (n4_far _ g1)
  refine lv_aload_n hx hb dL_law_1334 rfl (lv_at hl 1 rfl) ?_
  refine sc_row hx hb hX hbl hbA hS (lv_at hl 0 rfl) (lv_at hl 4 rfl) hi hL (k := 1) (by decide) dL_law_1335 dL_law_1336 dL_law_1338 rfl dL_law_1339 dL_law_1340 ?_
  refine sc_row hx hb hX hbl hbA hS (lv_at hl 0 rfl) (lv_at hl 4 rfl) hi hL (k := 2) (by decide) dL_law_1341 dL_law_1342 dL_law_1344 rfl dL_law_1345 dL_law_1346 ?_
  refine bz_row hx hb dL_law_1347 (by decide) dL_law_1350 dL_law_1351 (by decide) dL_law_1354 ?_
  refine sc_row hx hb hX hbl hbA hS (lv_at hl 0 rfl) (lv_at hl 4 rfl) hi hL (k := 3) (by decide) dL_law_1355 dL_law_1356 dL_law_1358 rfl dL_law_1359 dL_law_1360 ?_
  refine bz_row hx hb dL_law_1361 (by decide) dL_law_1364 dL_law_1365 (by decide) dL_law_1368 ?_
  refine rk_Vl (wn := (wL K a (uN (uN S 0 sMn1) 16 sFr1)).flatten) (wL K a S) [wMn K (a 0) (a 17 0) (a 18 99) (a 19 99) (a 1 99) (a 2 99) (a 5 99) (a 9 99) (a 11 99) (a 12 99) (a 16 99) (S 0), wFr K (a 16) (S 16), wRo K (a 18) (S 18)] [wMn K (a 0) (a 17 0) (a 18 99) (a 19 99) (a 1 99) (a 2 99) (a 5 99) (a 9 99) (a 11 99) (a 12 99) (a 16 99) sMn1, wFr K (a 16) sFr1, wRo K (a 18) (S 18)] (wL K a (uN (uN S 0 sMn1) 16 sFr1)) (As := [.int (xs (i + 1)), .int (bz (xs (i + 2))), .int (bz (xs (i + 3)))]) (rest := []) ⟨hx, hb, hml, hown, hts⟩ (c_X10_far l D K FF (a 0) (a 17 0) (a 19 99) (a 1 99) (a 2 99) (a 5 99) (a 9 99) (a 11 99) (a 12 99) (a 16) (a 18) H.size (S 0) (S 16) (S 18) (xs (i + 1)) (bz (xs (i + 2))) (bz (xs (i + 3))) (v, sMn1, sFr1) g1) (cwV 3 hts (gcV_X10_far (mB52 _ (List.mem_of_getElem? (i := 14) rfl))) rfl rfl rfl hdV_X10_far ⟨(Nat.le_of_ble_eq_true rfl), (Nat.le_of_ble_eq_true rfl)⟩) hK hP hD hS hA [0, 16, 18] rfl rfl (by decide) (fl3 _ _ _) (fl3 _ _ _) rfl rfl rfl (va_recv hK (va_PL (cc := [wMn K (a 0) (a 17 0) (a 18 99) (a 19 99) (a 1 99) (a 2 99) (a 5 99) (a 9 99) (a 11 99) (a 12 99) (a 16 99) (S 0)]) hP rfl [0] rfl (fl1 _)) (ci := 9) (q0 := 0) rfl o_Mn) rfl hl.1 rfl (Nat.le_of_ble_eq_true rfl) dL_law_1369 hcs (fun H locs hP hD hS => ?_)
  refine lv_aload_n hx hb dL_law_1372 rfl (lv_at hl 2 rfl) ?_
  refine sc_row hx hb hX hbl hbA hS (lv_at hl 0 rfl) (lv_at hl 4 rfl) hi hL (k := 1) (by decide) dL_law_1373 dL_law_1374 dL_law_1376 rfl dL_law_1377 dL_law_1378 ?_
  refine sc_row hx hb hX hbl hbA hS (lv_at hl 0 rfl) (lv_at hl 4 rfl) hi hL (k := 2) (by decide) dL_law_1379 dL_law_1380 dL_law_1382 rfl dL_law_1383 dL_law_1384 ?_
  refine bz_row hx hb dL_law_1385 (by decide) dL_law_1388 dL_law_1389 (by decide) dL_law_1392 ?_
  refine sc_row hx hb hX hbl hbA hS (lv_at hl 0 rfl) (lv_at hl 4 rfl) hi hL (k := 3) (by decide) dL_law_1393 dL_law_1394 dL_law_1396 rfl dL_law_1397 dL_law_1398 ?_
  refine bz_row hx hb dL_law_1399 (by decide) dL_law_1402 dL_law_1403 (by decide) dL_law_1406 ?_
  refine rk_Vl (wn := (wL K a (uN (uN (uN S 0 sMn1) 16 sFr1) 20 sMo1)).flatten) (wL K a (uN (uN S 0 sMn1) 16 sFr1)) [wMo K (a 20) ((uN (uN S 0 sMn1) 16 sFr1) 20)] [wMo K (a 20) sMo1] (wL K a (uN (uN (uN S 0 sMn1) 16 sFr1) 20 sMo1)) (As := [.int (xs (i + 1)), .int (bz (xs (i + 2))), .int (bz (xs (i + 3)))]) (rest := [.long v]) ⟨hx, hb, hml, hown, hts⟩ (c_X11_far l D K FF (a 20) H.size ((uN (uN S 0 sMn1) 16 sFr1) 20) (xs (i + 1)) (bz (xs (i + 2))) (bz (xs (i + 3))) (v, sMo1) g2) (cwV 3 hts (gcV_X11_far (mB53 _ (List.mem_of_getElem? (i := 5) rfl))) rfl rfl rfl hdV_X11_far ⟨(Nat.le_of_ble_eq_true rfl), (Nat.le_of_ble_eq_true rfl)⟩) hK hP hD hS hA [20] rfl rfl (by decide) (fl1 _) (fl1 _) rfl rfl rfl (va_recv hK (va_PL (cc := [wMo K (a 20) ((uN (uN S 0 sMn1) 16 sFr1) 20)]) hP rfl [20] rfl (fl1 _)) (ci := 10) (q0 := 0) rfl o_Mo) rfl hl.1 rfl (Nat.le_of_ble_eq_true rfl) dL_law_1407 hcs (fun H locs hP hD hS => ?_)
  refine W.lcmp hx hb dL_law_1410 ?_
  refine lv_if_eq (tgt := 2154) hx hb dL_law_1411 (by decide) (fun _ => ?_) (fun c1 => absurd (lg_self v) c1)
  exact nx a (uN (uN (uN S 0 sMn1) 16 sFr1) 20 sMo1) H locs ls cells slots (by omega) (by omega) R1 hP hD hS hl

set_option maxHeartbeats 4000000 in
set_option maxRecDepth 100000 in
theorem law_loads {p : Program} {l : Launch} {e : Env} {s : State} {m : MethodId} {below : List Frame} {meth : Method} {c : Code} {b L : Nat} {xs : Nat → Int32} {D : va_G} {K : Nat → ClassId} {adK adV : Nat → Nat} {tF sa : Nat} (X : LCx p l s m c b L xs D K adK adV tF sa) {i : Nat} (hi : i + 6 ≤ L) (nx : LGo p l e s m below meth c b D K 2154 i 6) : LGo p l e s m below meth c b D K 1416 i 0 := by
  obtain ⟨hx, hb, hml, hown, hts, hX, hbl, hK, hZ, hZl, hlf, hL⟩ := X
  intro a S H locs ls cells slots hc hs hE hP hD hS hl
  have hA : ∀ q : Nat, s.heap.size ≤ q → (fun q : Nat => s.heap.size ≤ q) q := fun _ h => h
  have hbA : ¬ (fun q : Nat => s.heap.size ≤ q) b := Nat.not_le.mpr hbl
  have hcs := lroom hc hs (by omega)
  obtain ⟨v, sMn1, sFr1, sMo1, g1, g2, tt⟩ := P_loads (F := FF) (sMn := (S 0)) (sRo := (S 18)) (sFr := (S 16)) (sMo := (S 20)) (Nat.le_of_ble_eq_true rfl) hE.1 hE.2.1 (xs (i + 1)) (bz (xs (i + 2)))
  have R1 := REL_U hE tt (n4_loads _ g1)
  refine lv_aload_n hx hb dL_law_1416 rfl (lv_at hl 1 rfl) ?_
  refine sc_row hx hb hX hbl hbA hS (lv_at hl 0 rfl) (lv_at hl 4 rfl) hi hL (k := 1) (by decide) dL_law_1417 dL_law_1418 dL_law_1420 rfl dL_law_1421 dL_law_1422 ?_
  refine sc_row hx hb hX hbl hbA hS (lv_at hl 0 rfl) (lv_at hl 4 rfl) hi hL (k := 2) (by decide) dL_law_1423 dL_law_1424 dL_law_1426 rfl dL_law_1427 dL_law_1428 ?_
  refine bz_row hx hb dL_law_1429 (by decide) dL_law_1432 dL_law_1433 (by decide) dL_law_1436 ?_
  refine rk_Vi (wn := (wL K a (uN (uN S 0 sMn1) 16 sFr1)).flatten) (wL K a S) [wMn K (a 0) (a 17 0) (a 18 99) (a 19 99) (a 1 99) (a 2 99) (a 5 99) (a 9 99) (a 11 99) (a 12 99) (a 16 99) (S 0), wFr K (a 16) (S 16), wRo K (a 18) (S 18)] [wMn K (a 0) (a 17 0) (a 18 99) (a 19 99) (a 1 99) (a 2 99) (a 5 99) (a 9 99) (a 11 99) (a 12 99) (a 16 99) sMn1, wFr K (a 16) sFr1, wRo K (a 18) (S 18)] (wL K a (uN (uN S 0 sMn1) 16 sFr1)) (As := [.int (xs (i + 1)), .int (bz (xs (i + 2)))]) (rest := []) ⟨hx, hb, hml, hown, hts⟩ (c_X10_loads l D K FF (a 0) (a 17 0) (a 19 99) (a 1 99) (a 2 99) (a 5 99) (a 9 99) (a 11 99) (a 12 99) (a 16) (a 18) H.size (S 0) (S 16) (S 18) (xs (i + 1)) (bz (xs (i + 2))) (v, sMn1, sFr1) g1) (cwV 2 hts (gcV_X10_loads (mB53 _ (List.mem_of_getElem? (i := 19) rfl))) rfl rfl rfl hdV_X10_loads ⟨(Nat.le_of_ble_eq_true rfl), (Nat.le_of_ble_eq_true rfl)⟩) hK hP hD hS hA [0, 16, 18] rfl rfl (by decide) (fl3 _ _ _) (fl3 _ _ _) rfl rfl rfl (va_recv hK (va_PL (cc := [wMn K (a 0) (a 17 0) (a 18 99) (a 19 99) (a 1 99) (a 2 99) (a 5 99) (a 9 99) (a 11 99) (a 12 99) (a 16 99) (S 0)]) hP rfl [0] rfl (fl1 _)) (ci := 9) (q0 := 0) rfl o_Mn) rfl hl.1 rfl (Nat.le_of_ble_eq_true rfl) dL_law_1437 hcs (fun H locs hP hD hS => ?_)
  refine lv_aload_n hx hb dL_law_1440 rfl (lv_at hl 2 rfl) ?_
  refine sc_row hx hb hX hbl hbA hS (lv_at hl 0 rfl) (lv_at hl 4 rfl) hi hL (k := 1) (by decide) dL_law_1441 dL_law_1442 dL_law_1444 rfl dL_law_1445 dL_law_1446 ?_
  refine sc_row hx hb hX hbl hbA hS (lv_at hl 0 rfl) (lv_at hl 4 rfl) hi hL (k := 2) (by decide) dL_law_1447 dL_law_1448 dL_law_1450 rfl dL_law_1451 dL_law_1452 ?_
  refine bz_row hx hb dL_law_1453 (by decide) dL_law_1456 dL_law_1457 (by decide) dL_law_1460 ?_
  refine rk_Vi (wn := (wL K a (uN (uN (uN S 0 sMn1) 16 sFr1) 20 sMo1)).flatten) (wL K a (uN (uN S 0 sMn1) 16 sFr1)) [wMo K (a 20) ((uN (uN S 0 sMn1) 16 sFr1) 20)] [wMo K (a 20) sMo1] (wL K a (uN (uN (uN S 0 sMn1) 16 sFr1) 20 sMo1)) (As := [.int (xs (i + 1)), .int (bz (xs (i + 2)))]) (rest := [.int v]) ⟨hx, hb, hml, hown, hts⟩ (c_X11_loads l D K FF (a 20) H.size ((uN (uN S 0 sMn1) 16 sFr1) 20) (xs (i + 1)) (bz (xs (i + 2))) (v, sMo1) g2) (cwV 2 hts (gcV_X11_loads (mB54 _ (List.mem_of_getElem? (i := 3) rfl))) rfl rfl rfl hdV_X11_loads ⟨(Nat.le_of_ble_eq_true rfl), (Nat.le_of_ble_eq_true rfl)⟩) hK hP hD hS hA [20] rfl rfl (by decide) (fl1 _) (fl1 _) rfl rfl rfl (va_recv hK (va_PL (cc := [wMo K (a 20) ((uN (uN S 0 sMn1) 16 sFr1) 20)]) hP rfl [20] rfl (fl1 _)) (ci := 10) (q0 := 0) rfl o_Mo) rfl hl.1 rfl (Nat.le_of_ble_eq_true rfl) dL_law_1461 hcs (fun H locs hP hD hS => ?_)
  refine lv_icmp_eq (tgt := 2154) hx hb dL_law_1464 (by decide) (fun _ => ?_) (fun c1 => absurd rfl c1)
  exact nx a (uN (uN (uN S 0 sMn1) 16 sFr1) 20 sMo1) H locs ls cells slots (by omega) (by omega) R1 hP hD hS hl

set_option maxHeartbeats 4000000 in
set_option maxRecDepth 100000 in
theorem law_depot {p : Program} {l : Launch} {e : Env} {s : State} {m : MethodId} {below : List Frame} {meth : Method} {c : Code} {b L : Nat} {xs : Nat → Int32} {D : va_G} {K : Nat → ClassId} {adK adV : Nat → Nat} {tF sa : Nat} (X : LCx p l s m c b L xs D K adK adV tF sa) {i : Nat} (hi : i + 6 ≤ L) (nx : LGo p l e s m below meth c b D K 2154 i 6) : LGo p l e s m below meth c b D K 1469 i 0 := by
  obtain ⟨hx, hb, hml, hown, hts, hX, hbl, hK, hZ, hZl, hlf, hL⟩ := X
  intro a S H locs ls cells slots hc hs hE hP hD hS hl
  have hA : ∀ q : Nat, s.heap.size ≤ q → (fun q : Nat => s.heap.size ≤ q) q := fun _ h => h
  have hbA : ¬ (fun q : Nat => s.heap.size ≤ q) b := Nat.not_le.mpr hbl
  have hcs := lroom hc hs (by omega)
  obtain ⟨v, sMn1, sFr1, sMo1, g1, g2, tt⟩ := P_depot (F := FF) (sMn := (S 0)) (sRo := (S 18)) (sFr := (S 16)) (sMo := (S 20)) (Nat.le_of_ble_eq_true rfl) hE.1 hE.2.1 (xs (i + 1)) (bz (xs (i + 2))) (xs (i + 3)) (bz (xs (i + 4)))
  have R1 := REL_U hE tt (n4_depot _ g1)
  refine lv_aload_n hx hb dL_law_1469 rfl (lv_at hl 1 rfl) ?_
  refine sc_row hx hb hX hbl hbA hS (lv_at hl 0 rfl) (lv_at hl 4 rfl) hi hL (k := 1) (by decide) dL_law_1470 dL_law_1471 dL_law_1473 rfl dL_law_1474 dL_law_1475 ?_
  refine sc_row hx hb hX hbl hbA hS (lv_at hl 0 rfl) (lv_at hl 4 rfl) hi hL (k := 2) (by decide) dL_law_1476 dL_law_1477 dL_law_1479 rfl dL_law_1480 dL_law_1481 ?_
  refine bz_row hx hb dL_law_1482 (by decide) dL_law_1485 dL_law_1486 (by decide) dL_law_1489 ?_
  refine sc_row hx hb hX hbl hbA hS (lv_at hl 0 rfl) (lv_at hl 4 rfl) hi hL (k := 3) (by decide) dL_law_1490 dL_law_1491 dL_law_1493 rfl dL_law_1494 dL_law_1495 ?_
  refine sc_row hx hb hX hbl hbA hS (lv_at hl 0 rfl) (lv_at hl 4 rfl) hi hL (k := 4) (by decide) dL_law_1496 dL_law_1497 dL_law_1499 rfl dL_law_1500 dL_law_1501 ?_
  refine bz_row hx hb dL_law_1502 (by decide) dL_law_1505 dL_law_1506 (by decide) dL_law_1509 ?_
  refine rk_Vl (wn := (wL K a (uN (uN S 0 sMn1) 16 sFr1)).flatten) (wL K a S) [wMn K (a 0) (a 17 0) (a 18 99) (a 19 99) (a 1 99) (a 2 99) (a 5 99) (a 9 99) (a 11 99) (a 12 99) (a 16 99) (S 0), wFr K (a 16) (S 16), wRo K (a 18) (S 18)] [wMn K (a 0) (a 17 0) (a 18 99) (a 19 99) (a 1 99) (a 2 99) (a 5 99) (a 9 99) (a 11 99) (a 12 99) (a 16 99) sMn1, wFr K (a 16) sFr1, wRo K (a 18) (S 18)] (wL K a (uN (uN S 0 sMn1) 16 sFr1)) (As := [.int (xs (i + 1)), .int (bz (xs (i + 2))), .int (xs (i + 3)), .int (bz (xs (i + 4)))]) (rest := []) ⟨hx, hb, hml, hown, hts⟩ (c_X10_depot l D K FF (a 0) (a 17 0) (a 19 99) (a 1 99) (a 2 99) (a 5 99) (a 9 99) (a 11 99) (a 12 99) (a 16) (a 18) H.size (S 0) (S 16) (S 18) (xs (i + 1)) (bz (xs (i + 2))) (xs (i + 3)) (bz (xs (i + 4))) (v, sMn1, sFr1) g1) (cwV 4 hts (gcV_X10_depot (mB54 _ (List.mem_of_getElem? (i := 7) rfl))) rfl rfl rfl hdV_X10_depot ⟨(Nat.le_of_ble_eq_true rfl), (Nat.le_of_ble_eq_true rfl)⟩) hK hP hD hS hA [0, 16, 18] rfl rfl (by decide) (fl3 _ _ _) (fl3 _ _ _) rfl rfl rfl (va_recv hK (va_PL (cc := [wMn K (a 0) (a 17 0) (a 18 99) (a 19 99) (a 1 99) (a 2 99) (a 5 99) (a 9 99) (a 11 99) (a 12 99) (a 16 99) (S 0)]) hP rfl [0] rfl (fl1 _)) (ci := 9) (q0 := 0) rfl o_Mn) rfl hl.1 rfl (Nat.le_of_ble_eq_true rfl) dL_law_1510 hcs (fun H locs hP hD hS => ?_)
  refine lv_aload_n hx hb dL_law_1513 rfl (lv_at hl 2 rfl) ?_
  refine sc_row hx hb hX hbl hbA hS (lv_at hl 0 rfl) (lv_at hl 4 rfl) hi hL (k := 1) (by decide) dL_law_1514 dL_law_1515 dL_law_1517 rfl dL_law_1518 dL_law_1519 ?_
  refine sc_row hx hb hX hbl hbA hS (lv_at hl 0 rfl) (lv_at hl 4 rfl) hi hL (k := 2) (by decide) dL_law_1520 dL_law_1521 dL_law_1523 rfl dL_law_1524 dL_law_1525 ?_
  refine bz_row hx hb dL_law_1526 (by decide) dL_law_1529 dL_law_1530 (by decide) dL_law_1533 ?_
  refine sc_row hx hb hX hbl hbA hS (lv_at hl 0 rfl) (lv_at hl 4 rfl) hi hL (k := 3) (by decide) dL_law_1534 dL_law_1535 dL_law_1537 rfl dL_law_1538 dL_law_1539 ?_
  refine sc_row hx hb hX hbl hbA hS (lv_at hl 0 rfl) (lv_at hl 4 rfl) hi hL (k := 4) (by decide) dL_law_1540 dL_law_1541 dL_law_1543 rfl dL_law_1544 dL_law_1545 ?_
  refine bz_row hx hb dL_law_1546 (by decide) dL_law_1549 dL_law_1550 (by decide) dL_law_1553 ?_
  refine rk_Vl (wn := (wL K a (uN (uN (uN S 0 sMn1) 16 sFr1) 20 sMo1)).flatten) (wL K a (uN (uN S 0 sMn1) 16 sFr1)) [wMo K (a 20) ((uN (uN S 0 sMn1) 16 sFr1) 20)] [wMo K (a 20) sMo1] (wL K a (uN (uN (uN S 0 sMn1) 16 sFr1) 20 sMo1)) (As := [.int (xs (i + 1)), .int (bz (xs (i + 2))), .int (xs (i + 3)), .int (bz (xs (i + 4)))]) (rest := [.long v]) ⟨hx, hb, hml, hown, hts⟩ (c_X11_depot l D K FF (a 20) H.size ((uN (uN S 0 sMn1) 16 sFr1) 20) (xs (i + 1)) (bz (xs (i + 2))) (xs (i + 3)) (bz (xs (i + 4))) (v, sMo1) g2) (cwV 4 hts (gcV_X11_depot (mB54 _ (List.mem_of_getElem? (i := 11) rfl))) rfl rfl rfl hdV_X11_depot ⟨(Nat.le_of_ble_eq_true rfl), (Nat.le_of_ble_eq_true rfl)⟩) hK hP hD hS hA [20] rfl rfl (by decide) (fl1 _) (fl1 _) rfl rfl rfl (va_recv hK (va_PL (cc := [wMo K (a 20) ((uN (uN S 0 sMn1) 16 sFr1) 20)]) hP rfl [20] rfl (fl1 _)) (ci := 10) (q0 := 0) rfl o_Mo) rfl hl.1 rfl (Nat.le_of_ble_eq_true rfl) dL_law_1554 hcs (fun H locs hP hD hS => ?_)
  refine W.lcmp hx hb dL_law_1557 ?_
  refine lv_if_eq (tgt := 2154) hx hb dL_law_1558 (by decide) (fun _ => ?_) (fun c1 => absurd (lg_self v) c1)
  exact nx a (uN (uN (uN S 0 sMn1) 16 sFr1) 20 sMo1) H locs ls cells slots (by omega) (by omega) R1 hP hD hS hl

set_option maxHeartbeats 4000000 in
set_option maxRecDepth 100000 in
theorem law_convoy {p : Program} {l : Launch} {e : Env} {s : State} {m : MethodId} {below : List Frame} {meth : Method} {c : Code} {b L : Nat} {xs : Nat → Int32} {D : va_G} {K : Nat → ClassId} {adK adV : Nat → Nat} {tF sa : Nat} (X : LCx p l s m c b L xs D K adK adV tF sa) {i : Nat} (hi : i + 6 ≤ L) (nx : LGo p l e s m below meth c b D K 2154 i 6) : LGo p l e s m below meth c b D K 1563 i 0 := by
  obtain ⟨hx, hb, hml, hown, hts, hX, hbl, hK, hZ, hZl, hlf, hL⟩ := X
  intro a S H locs ls cells slots hc hs hE hP hD hS hl
  have hA : ∀ q : Nat, s.heap.size ≤ q → (fun q : Nat => s.heap.size ≤ q) q := fun _ h => h
  have hbA : ¬ (fun q : Nat => s.heap.size ≤ q) b := Nat.not_le.mpr hbl
  have hcs := lroom hc hs (by omega)
  obtain ⟨v, sMn1, sFr1, sMo1, g1, g2, tt⟩ := P_convoy (F := FF) (sMn := (S 0)) (sRo := (S 18)) (sFr := (S 16)) (sMo := (S 20)) (Nat.le_of_ble_eq_true rfl) hE.1 hE.2.1 (xs (i + 1)) (bz (xs (i + 2)))
  have R1 := REL_U hE tt (n4_convoy _ g1)
  refine lv_aload_n hx hb dL_law_1563 rfl (lv_at hl 1 rfl) ?_
  refine sc_row hx hb hX hbl hbA hS (lv_at hl 0 rfl) (lv_at hl 4 rfl) hi hL (k := 1) (by decide) dL_law_1564 dL_law_1565 dL_law_1567 rfl dL_law_1568 dL_law_1569 ?_
  refine sc_row hx hb hX hbl hbA hS (lv_at hl 0 rfl) (lv_at hl 4 rfl) hi hL (k := 2) (by decide) dL_law_1570 dL_law_1571 dL_law_1573 rfl dL_law_1574 dL_law_1575 ?_
  refine bz_row hx hb dL_law_1576 (by decide) dL_law_1579 dL_law_1580 (by decide) dL_law_1583 ?_
  refine rk_Vl (wn := (wL K a (uN (uN S 0 sMn1) 16 sFr1)).flatten) (wL K a S) [wMn K (a 0) (a 17 0) (a 18 99) (a 19 99) (a 1 99) (a 2 99) (a 5 99) (a 9 99) (a 11 99) (a 12 99) (a 16 99) (S 0), wFr K (a 16) (S 16), wRo K (a 18) (S 18)] [wMn K (a 0) (a 17 0) (a 18 99) (a 19 99) (a 1 99) (a 2 99) (a 5 99) (a 9 99) (a 11 99) (a 12 99) (a 16 99) sMn1, wFr K (a 16) sFr1, wRo K (a 18) (S 18)] (wL K a (uN (uN S 0 sMn1) 16 sFr1)) (As := [.int (xs (i + 1)), .int (bz (xs (i + 2)))]) (rest := []) ⟨hx, hb, hml, hown, hts⟩ (c_X10_convoy l D K FF (a 0) (a 17 0) (a 19 99) (a 1 99) (a 2 99) (a 5 99) (a 9 99) (a 11 99) (a 12 99) (a 16) (a 18) H.size (S 0) (S 16) (S 18) (xs (i + 1)) (bz (xs (i + 2))) (v, sMn1, sFr1) g1) (cwV 2 hts (gcV_X10_convoy (mB54 _ (List.mem_of_getElem? (i := 15) rfl))) rfl rfl rfl hdV_X10_convoy ⟨(Nat.le_of_ble_eq_true rfl), (Nat.le_of_ble_eq_true rfl)⟩) hK hP hD hS hA [0, 16, 18] rfl rfl (by decide) (fl3 _ _ _) (fl3 _ _ _) rfl rfl rfl (va_recv hK (va_PL (cc := [wMn K (a 0) (a 17 0) (a 18 99) (a 19 99) (a 1 99) (a 2 99) (a 5 99) (a 9 99) (a 11 99) (a 12 99) (a 16 99) (S 0)]) hP rfl [0] rfl (fl1 _)) (ci := 9) (q0 := 0) rfl o_Mn) rfl hl.1 rfl (Nat.le_of_ble_eq_true rfl) dL_law_1584 hcs (fun H locs hP hD hS => ?_)
  refine lv_aload_n hx hb dL_law_1587 rfl (lv_at hl 2 rfl) ?_
  refine sc_row hx hb hX hbl hbA hS (lv_at hl 0 rfl) (lv_at hl 4 rfl) hi hL (k := 1) (by decide) dL_law_1588 dL_law_1589 dL_law_1591 rfl dL_law_1592 dL_law_1593 ?_
  refine sc_row hx hb hX hbl hbA hS (lv_at hl 0 rfl) (lv_at hl 4 rfl) hi hL (k := 2) (by decide) dL_law_1594 dL_law_1595 dL_law_1597 rfl dL_law_1598 dL_law_1599 ?_
  refine bz_row hx hb dL_law_1600 (by decide) dL_law_1603 dL_law_1604 (by decide) dL_law_1607 ?_
  refine rk_Vl (wn := (wL K a (uN (uN (uN S 0 sMn1) 16 sFr1) 20 sMo1)).flatten) (wL K a (uN (uN S 0 sMn1) 16 sFr1)) [wMo K (a 20) ((uN (uN S 0 sMn1) 16 sFr1) 20)] [wMo K (a 20) sMo1] (wL K a (uN (uN (uN S 0 sMn1) 16 sFr1) 20 sMo1)) (As := [.int (xs (i + 1)), .int (bz (xs (i + 2)))]) (rest := [.long v]) ⟨hx, hb, hml, hown, hts⟩ (c_X11_convoy l D K FF (a 20) H.size ((uN (uN S 0 sMn1) 16 sFr1) 20) (xs (i + 1)) (bz (xs (i + 2))) (v, sMo1) g2) (cwV 2 hts (gcV_X11_convoy (mB54 _ (List.mem_of_getElem? (i := 19) rfl))) rfl rfl rfl hdV_X11_convoy ⟨(Nat.le_of_ble_eq_true rfl), (Nat.le_of_ble_eq_true rfl)⟩) hK hP hD hS hA [20] rfl rfl (by decide) (fl1 _) (fl1 _) rfl rfl rfl (va_recv hK (va_PL (cc := [wMo K (a 20) ((uN (uN S 0 sMn1) 16 sFr1) 20)]) hP rfl [20] rfl (fl1 _)) (ci := 10) (q0 := 0) rfl o_Mo) rfl hl.1 rfl (Nat.le_of_ble_eq_true rfl) dL_law_1608 hcs (fun H locs hP hD hS => ?_)
  refine W.lcmp hx hb dL_law_1611 ?_
  refine lv_if_eq (tgt := 2154) hx hb dL_law_1612 (by decide) (fun _ => ?_) (fun c1 => absurd (lg_self v) c1)
  exact nx a (uN (uN (uN S 0 sMn1) 16 sFr1) 20 sMo1) H locs ls cells slots (by omega) (by omega) R1 hP hD hS hl

set_option maxHeartbeats 4000000 in
set_option maxRecDepth 100000 in
theorem law_fits {p : Program} {l : Launch} {e : Env} {s : State} {m : MethodId} {below : List Frame} {meth : Method} {c : Code} {b L : Nat} {xs : Nat → Int32} {D : va_G} {K : Nat → ClassId} {adK adV : Nat → Nat} {tF sa : Nat} (X : LCx p l s m c b L xs D K adK adV tF sa) {i : Nat} (hi : i + 6 ≤ L) (nx : LGo p l e s m below meth c b D K 2154 i 6) : LGo p l e s m below meth c b D K 1617 i 0 := by
  obtain ⟨hx, hb, hml, hown, hts, hX, hbl, hK, hZ, hZl, hlf, hL⟩ := X
  intro a S H locs ls cells slots hc hs hE hP hD hS hl
  have hA : ∀ q : Nat, s.heap.size ≤ q → (fun q : Nat => s.heap.size ≤ q) q := fun _ h => h
  have hbA : ¬ (fun q : Nat => s.heap.size ≤ q) b := Nat.not_le.mpr hbl
  have hcs := lroom hc hs (by omega)
  obtain ⟨v, sMn1, sRe1, sMo1, g1, g2, tt⟩ := P_fits (F := FF) (sMn := (S 0)) (sRo := (S 18)) (sRe := (S 11)) (sMo := (S 20)) (Nat.le_of_ble_eq_true rfl) hE.1 hE.2.1
  have R1 := REL_U hE tt (n4_fits _ g1)
  refine lv_aload_n hx hb dL_law_1617 rfl (lv_at hl 1 rfl) ?_
  refine rk_Vi (wn := (wL K a (uN (uN S 0 sMn1) 11 sRe1)).flatten) (wL K a S) [wMn K (a 0) (a 17 0) (a 18 99) (a 19 99) (a 1 99) (a 2 99) (a 5 99) (a 9 99) (a 11 99) (a 12 99) (a 16 99) (S 0), wRe K (a 11) (S 11), wRo K (a 18) (S 18)] [wMn K (a 0) (a 17 0) (a 18 99) (a 19 99) (a 1 99) (a 2 99) (a 5 99) (a 9 99) (a 11 99) (a 12 99) (a 16 99) sMn1, wRe K (a 11) sRe1, wRo K (a 18) (S 18)] (wL K a (uN (uN S 0 sMn1) 11 sRe1)) (As := []) (rest := []) ⟨hx, hb, hml, hown, hts⟩ (c_X10_fits l D K FF (a 0) (a 17 0) (a 19 99) (a 1 99) (a 2 99) (a 5 99) (a 9 99) (a 12 99) (a 16 99) (a 11) (a 18) H.size (S 0) (S 11) (S 18) (v, sMn1, sRe1) g1) (cwV 0 hts (gcV_X10_fits (mB54 _ (List.mem_of_getElem? (i := 23) rfl))) rfl rfl rfl hdV_X10_fits ⟨(Nat.le_of_ble_eq_true rfl), (Nat.le_of_ble_eq_true rfl)⟩) hK hP hD hS hA [0, 11, 18] rfl rfl (by decide) (fl3 _ _ _) (fl3 _ _ _) rfl rfl rfl (va_recv hK (va_PL (cc := [wMn K (a 0) (a 17 0) (a 18 99) (a 19 99) (a 1 99) (a 2 99) (a 5 99) (a 9 99) (a 11 99) (a 12 99) (a 16 99) (S 0)]) hP rfl [0] rfl (fl1 _)) (ci := 9) (q0 := 0) rfl o_Mn) rfl hl.1 rfl (Nat.le_of_ble_eq_true rfl) dL_law_1618 hcs (fun H locs hP hD hS => ?_)
  refine lv_aload_n hx hb dL_law_1621 rfl (lv_at hl 2 rfl) ?_
  refine rk_Vi (wn := (wL K a (uN (uN (uN S 0 sMn1) 11 sRe1) 20 sMo1)).flatten) (wL K a (uN (uN S 0 sMn1) 11 sRe1)) [wMo K (a 20) ((uN (uN S 0 sMn1) 11 sRe1) 20)] [wMo K (a 20) sMo1] (wL K a (uN (uN (uN S 0 sMn1) 11 sRe1) 20 sMo1)) (As := []) (rest := [.int v]) ⟨hx, hb, hml, hown, hts⟩ (c_X11_fits l D K FF (a 20) H.size ((uN (uN S 0 sMn1) 11 sRe1) 20) (v, sMo1) g2) (cwV 0 hts (gcV_X11_fits (mB57 _ (List.mem_of_getElem? (i := 0) rfl))) rfl rfl rfl hdV_X11_fits ⟨(Nat.le_of_ble_eq_true rfl), (Nat.le_of_ble_eq_true rfl)⟩) hK hP hD hS hA [20] rfl rfl (by decide) (fl1 _) (fl1 _) rfl rfl rfl (va_recv hK (va_PL (cc := [wMo K (a 20) ((uN (uN S 0 sMn1) 11 sRe1) 20)]) hP rfl [20] rfl (fl1 _)) (ci := 10) (q0 := 0) rfl o_Mo) rfl hl.1 rfl (Nat.le_of_ble_eq_true rfl) dL_law_1622 hcs (fun H locs hP hD hS => ?_)
  refine lv_icmp_eq (tgt := 2154) hx hb dL_law_1625 (by decide) (fun _ => ?_) (fun c1 => absurd rfl c1)
  exact nx a (uN (uN (uN S 0 sMn1) 11 sRe1) 20 sMo1) H locs ls cells slots (by omega) (by omega) R1 hP hD hS hl

set_option maxHeartbeats 4000000 in
set_option maxRecDepth 100000 in
theorem law_fit {p : Program} {l : Launch} {e : Env} {s : State} {m : MethodId} {below : List Frame} {meth : Method} {c : Code} {b L : Nat} {xs : Nat → Int32} {D : va_G} {K : Nat → ClassId} {adK adV : Nat → Nat} {tF sa : Nat} (X : LCx p l s m c b L xs D K adK adV tF sa) {i : Nat} (hi : i + 6 ≤ L) (nx : LGo p l e s m below meth c b D K 2154 i 6) : LGo p l e s m below meth c b D K 1630 i 0 := by
  obtain ⟨hx, hb, hml, hown, hts, hX, hbl, hK, hZ, hZl, hlf, hL⟩ := X
  intro a S H locs ls cells slots hc hs hE hP hD hS hl
  have hA : ∀ q : Nat, s.heap.size ≤ q → (fun q : Nat => s.heap.size ≤ q) q := fun _ h => h
  have hbA : ¬ (fun q : Nat => s.heap.size ≤ q) b := Nat.not_le.mpr hbl
  have hcs := lroom hc hs (by omega)
  obtain ⟨v, sMn1, sRe1, sMo1, g1, g2, tt⟩ := P_fit (F := FF) (sMn := (S 0)) (sRo := (S 18)) (sRe := (S 11)) (sMo := (S 20)) (Nat.le_of_ble_eq_true rfl) hE.1 hE.2.1 (xs (i + 1)) (xs (i + 2))
  have R1 := REL_U hE tt (n4_fit _ g1)
  refine lv_aload_n hx hb dL_law_1630 rfl (lv_at hl 1 rfl) ?_
  refine sc_row hx hb hX hbl hbA hS (lv_at hl 0 rfl) (lv_at hl 4 rfl) hi hL (k := 1) (by decide) dL_law_1631 dL_law_1632 dL_law_1634 rfl dL_law_1635 dL_law_1636 ?_
  refine sc_row hx hb hX hbl hbA hS (lv_at hl 0 rfl) (lv_at hl 4 rfl) hi hL (k := 2) (by decide) dL_law_1637 dL_law_1638 dL_law_1640 rfl dL_law_1641 dL_law_1642 ?_
  refine rk_Vi (wn := (wL K a (uN (uN S 0 sMn1) 11 sRe1)).flatten) (wL K a S) [wMn K (a 0) (a 17 0) (a 18 99) (a 19 99) (a 1 99) (a 2 99) (a 5 99) (a 9 99) (a 11 99) (a 12 99) (a 16 99) (S 0), wRe K (a 11) (S 11), wRo K (a 18) (S 18)] [wMn K (a 0) (a 17 0) (a 18 99) (a 19 99) (a 1 99) (a 2 99) (a 5 99) (a 9 99) (a 11 99) (a 12 99) (a 16 99) sMn1, wRe K (a 11) sRe1, wRo K (a 18) (S 18)] (wL K a (uN (uN S 0 sMn1) 11 sRe1)) (As := [.int (xs (i + 1)), .int (xs (i + 2))]) (rest := []) ⟨hx, hb, hml, hown, hts⟩ (c_X10_fit l D K FF (a 0) (a 17 0) (a 19 99) (a 1 99) (a 2 99) (a 5 99) (a 9 99) (a 12 99) (a 16 99) (a 11) (a 18) H.size (S 0) (S 11) (S 18) (xs (i + 1)) (xs (i + 2)) (v, sMn1, sRe1) g1) (cwV 2 hts (gcV_X10_fit (mB58 _ (List.mem_of_getElem? (i := 4) rfl))) rfl rfl rfl hdV_X10_fit ⟨(Nat.le_of_ble_eq_true rfl), (Nat.le_of_ble_eq_true rfl)⟩) hK hP hD hS hA [0, 11, 18] rfl rfl (by decide) (fl3 _ _ _) (fl3 _ _ _) rfl rfl rfl (va_recv hK (va_PL (cc := [wMn K (a 0) (a 17 0) (a 18 99) (a 19 99) (a 1 99) (a 2 99) (a 5 99) (a 9 99) (a 11 99) (a 12 99) (a 16 99) (S 0)]) hP rfl [0] rfl (fl1 _)) (ci := 9) (q0 := 0) rfl o_Mn) rfl hl.1 rfl (Nat.le_of_ble_eq_true rfl) dL_law_1643 hcs (fun H locs hP hD hS => ?_)
  refine lv_aload_n hx hb dL_law_1646 rfl (lv_at hl 2 rfl) ?_
  refine sc_row hx hb hX hbl hbA hS (lv_at hl 0 rfl) (lv_at hl 4 rfl) hi hL (k := 1) (by decide) dL_law_1647 dL_law_1648 dL_law_1650 rfl dL_law_1651 dL_law_1652 ?_
  refine sc_row hx hb hX hbl hbA hS (lv_at hl 0 rfl) (lv_at hl 4 rfl) hi hL (k := 2) (by decide) dL_law_1653 dL_law_1654 dL_law_1656 rfl dL_law_1657 dL_law_1658 ?_
  refine rk_Vi (wn := (wL K a (uN (uN (uN S 0 sMn1) 11 sRe1) 20 sMo1)).flatten) (wL K a (uN (uN S 0 sMn1) 11 sRe1)) [wMo K (a 20) ((uN (uN S 0 sMn1) 11 sRe1) 20)] [wMo K (a 20) sMo1] (wL K a (uN (uN (uN S 0 sMn1) 11 sRe1) 20 sMo1)) (As := [.int (xs (i + 1)), .int (xs (i + 2))]) (rest := [.int v]) ⟨hx, hb, hml, hown, hts⟩ (c_X11_fit l D K FF (a 20) H.size ((uN (uN S 0 sMn1) 11 sRe1) 20) (xs (i + 1)) (xs (i + 2)) (v, sMo1) g2) (cwV 2 hts (gcV_X11_fit (mB58 _ (List.mem_of_getElem? (i := 10) rfl))) rfl rfl rfl hdV_X11_fit ⟨(Nat.le_of_ble_eq_true rfl), (Nat.le_of_ble_eq_true rfl)⟩) hK hP hD hS hA [20] rfl rfl (by decide) (fl1 _) (fl1 _) rfl rfl rfl (va_recv hK (va_PL (cc := [wMo K (a 20) ((uN (uN S 0 sMn1) 11 sRe1) 20)]) hP rfl [20] rfl (fl1 _)) (ci := 10) (q0 := 0) rfl o_Mo) rfl hl.1 rfl (Nat.le_of_ble_eq_true rfl) dL_law_1659 hcs (fun H locs hP hD hS => ?_)
  refine lv_icmp_eq (tgt := 2154) hx hb dL_law_1662 (by decide) (fun _ => ?_) (fun c1 => absurd rfl c1)
  exact nx a (uN (uN (uN S 0 sMn1) 11 sRe1) 20 sMo1) H locs ls cells slots (by omega) (by omega) R1 hP hD hS hl

set_option maxHeartbeats 4000000 in
set_option maxRecDepth 100000 in
theorem law_went {p : Program} {l : Launch} {e : Env} {s : State} {m : MethodId} {below : List Frame} {meth : Method} {c : Code} {b L : Nat} {xs : Nat → Int32} {D : va_G} {K : Nat → ClassId} {adK adV : Nat → Nat} {tF sa : Nat} (X : LCx p l s m c b L xs D K adK adV tF sa) {i : Nat} (hi : i + 6 ≤ L) (nx : LGo p l e s m below meth c b D K 2154 i 6) : LGo p l e s m below meth c b D K 1667 i 0 := by
  obtain ⟨hx, hb, hml, hown, hts, hX, hbl, hK, hZ, hZl, hlf, hL⟩ := X
  intro a S H locs ls cells slots hc hs hE hP hD hS hl
  have hA : ∀ q : Nat, s.heap.size ≤ q → (fun q : Nat => s.heap.size ≤ q) q := fun _ h => h
  have hbA : ¬ (fun q : Nat => s.heap.size ≤ q) b := Nat.not_le.mpr hbl
  have hcs := lroom hc hs (by omega)
  obtain ⟨v, sMn1, sRe1, sMo1, g1, g2, tt⟩ := P_went (F := FF) (sMn := (S 0)) (sRo := (S 18)) (sRe := (S 11)) (sMo := (S 20)) (Nat.le_of_ble_eq_true rfl) hE.1 hE.2.1 (bz (xs (i + 1)))
  have R1 := REL_U hE tt (n4_went _ g1)
  refine lv_aload_n hx hb dL_law_1667 rfl (lv_at hl 1 rfl) ?_
  refine sc_row hx hb hX hbl hbA hS (lv_at hl 0 rfl) (lv_at hl 4 rfl) hi hL (k := 1) (by decide) dL_law_1668 dL_law_1669 dL_law_1671 rfl dL_law_1672 dL_law_1673 ?_
  refine bz_row hx hb dL_law_1674 (by decide) dL_law_1677 dL_law_1678 (by decide) dL_law_1681 ?_
  refine rk_Vi (wn := (wL K a (uN (uN S 0 sMn1) 11 sRe1)).flatten) (wL K a S) [wMn K (a 0) (a 17 0) (a 18 99) (a 19 99) (a 1 99) (a 2 99) (a 5 99) (a 9 99) (a 11 99) (a 12 99) (a 16 99) (S 0), wRe K (a 11) (S 11), wRo K (a 18) (S 18)] [wMn K (a 0) (a 17 0) (a 18 99) (a 19 99) (a 1 99) (a 2 99) (a 5 99) (a 9 99) (a 11 99) (a 12 99) (a 16 99) sMn1, wRe K (a 11) sRe1, wRo K (a 18) (S 18)] (wL K a (uN (uN S 0 sMn1) 11 sRe1)) (As := [.int (bz (xs (i + 1)))]) (rest := []) ⟨hx, hb, hml, hown, hts⟩ (c_X10_went l D K FF (a 0) (a 17 0) (a 19 99) (a 1 99) (a 2 99) (a 5 99) (a 9 99) (a 12 99) (a 16 99) (a 11) (a 18) H.size (S 0) (S 11) (S 18) (bz (xs (i + 1))) (v, sMn1, sRe1) g1) (cwV 1 hts (gcV_X10_went (mB58 _ (List.mem_of_getElem? (i := 14) rfl))) rfl rfl rfl hdV_X10_went ⟨(Nat.le_of_ble_eq_true rfl), (Nat.le_of_ble_eq_true rfl)⟩) hK hP hD hS hA [0, 11, 18] rfl rfl (by decide) (fl3 _ _ _) (fl3 _ _ _) rfl rfl rfl (va_recv hK (va_PL (cc := [wMn K (a 0) (a 17 0) (a 18 99) (a 19 99) (a 1 99) (a 2 99) (a 5 99) (a 9 99) (a 11 99) (a 12 99) (a 16 99) (S 0)]) hP rfl [0] rfl (fl1 _)) (ci := 9) (q0 := 0) rfl o_Mn) rfl hl.1 rfl (Nat.le_of_ble_eq_true rfl) dL_law_1682 hcs (fun H locs hP hD hS => ?_)
  refine lv_aload_n hx hb dL_law_1685 rfl (lv_at hl 2 rfl) ?_
  refine sc_row hx hb hX hbl hbA hS (lv_at hl 0 rfl) (lv_at hl 4 rfl) hi hL (k := 1) (by decide) dL_law_1686 dL_law_1687 dL_law_1689 rfl dL_law_1690 dL_law_1691 ?_
  refine bz_row hx hb dL_law_1692 (by decide) dL_law_1695 dL_law_1696 (by decide) dL_law_1699 ?_
  refine rk_Vi (wn := (wL K a (uN (uN (uN S 0 sMn1) 11 sRe1) 20 sMo1)).flatten) (wL K a (uN (uN S 0 sMn1) 11 sRe1)) [wMo K (a 20) ((uN (uN S 0 sMn1) 11 sRe1) 20)] [wMo K (a 20) sMo1] (wL K a (uN (uN (uN S 0 sMn1) 11 sRe1) 20 sMo1)) (As := [.int (bz (xs (i + 1)))]) (rest := [.int v]) ⟨hx, hb, hml, hown, hts⟩ (c_X11_went l D K FF (a 20) H.size ((uN (uN S 0 sMn1) 11 sRe1) 20) (bz (xs (i + 1))) (v, sMo1) g2) (cwV 1 hts (gcV_X11_went (mB58 _ (List.mem_of_getElem? (i := 20) rfl))) rfl rfl rfl hdV_X11_went ⟨(Nat.le_of_ble_eq_true rfl), (Nat.le_of_ble_eq_true rfl)⟩) hK hP hD hS hA [20] rfl rfl (by decide) (fl1 _) (fl1 _) rfl rfl rfl (va_recv hK (va_PL (cc := [wMo K (a 20) ((uN (uN S 0 sMn1) 11 sRe1) 20)]) hP rfl [20] rfl (fl1 _)) (ci := 10) (q0 := 0) rfl o_Mo) rfl hl.1 rfl (Nat.le_of_ble_eq_true rfl) dL_law_1700 hcs (fun H locs hP hD hS => ?_)
  refine lv_icmp_eq (tgt := 2154) hx hb dL_law_1703 (by decide) (fun _ => ?_) (fun c1 => absurd rfl c1)
  exact nx a (uN (uN (uN S 0 sMn1) 11 sRe1) 20 sMo1) H locs ls cells slots (by omega) (by omega) R1 hP hD hS hl
