set_option maxHeartbeats 4000000 in
set_option maxRecDepth 100000 in
theorem law_seed {p : Program} {l : Launch} {e : Env} {s : State} {m : MethodId} {below : List Frame} {meth : Method} {c : Code} {b L : Nat} {xs : Nat → Int32} {D : va_G} {K : Nat → ClassId} {adK adV : Nat → Nat} {tF sa : Nat} (X : LCx p l s m c b L xs D K adK adV tF sa) {i : Nat} (hi : i + 6 ≤ L) (nx : LGo p l e s m below meth c b D K 2154 i 6) : LGo p l e s m below meth c b D K 1984 i 0 := by
  obtain ⟨hx, hb, hml, hown, hts, hX, hbl, hK, hZ, hZl, hlf, hL⟩ := X
  intro a S H locs ls cells slots hc hs hE hP hD hS hl
  have hA : ∀ q : Nat, s.heap.size ≤ q → (fun q : Nat => s.heap.size ≤ q) q := fun _ h => h
  have hbA : ¬ (fun q : Nat => s.heap.size ≤ q) b := Nat.not_le.mpr hbl
  have hcs := lroom hc hs (by omega)
  obtain ⟨v, sMn1, sJo1, sMo1, g1, g2, tt, x0⟩ := P_seed (F := FF) (sMn := (S 0)) (sRo := (S 18)) (sJo := (S 12)) (sJk := (S 13)) (sJi := (S 14)) (sMo := (S 20)) hE.1 hE.2.1 hE.2.2.2.1 (xs (i + 1))
  have R1 := REL_J hE tt (n4_seed _ g1) x0
  refine lv_aload_n hx hb dL_law_1984 rfl (lv_at hl 1 rfl) ?_
  refine sc_row hx hb hX hbl hbA hS (lv_at hl 0 rfl) (lv_at hl 4 rfl) hi hL (k := 1) (by decide) dL_law_1985 dL_law_1986 dL_law_1988 rfl dL_law_1989 dL_law_1990 ?_
  refine rk_Vi (wn := (wL K a (uN (uN S 0 sMn1) 12 sJo1)).flatten) (wL K a S) [wMn K (a 0) (a 17 0) (a 18 99) (a 19 99) (a 1 99) (a 2 99) (a 5 99) (a 9 99) (a 11 99) (a 12 99) (a 16 99) (S 0), wJo K (a 12) (a 15 99) (a 13) (a 14) (S 12), wRo K (a 18) (S 18)] [wMn K (a 0) (a 17 0) (a 18 99) (a 19 99) (a 1 99) (a 2 99) (a 5 99) (a 9 99) (a 11 99) (a 12 99) (a 16 99) sMn1, wJo K (a 12) (a 15 99) (a 13) (a 14) sJo1, wRo K (a 18) (S 18)] (wL K a (uN (uN S 0 sMn1) 12 sJo1)) (As := [.int (xs (i + 1))]) (rest := []) ⟨hx, hb, hml, hown, hts⟩ (c_X10_seed l D K FF (a 0) (a 17 0) (a 19 99) (a 1 99) (a 2 99) (a 5 99) (a 9 99) (a 11 99) (a 16 99) (a 12) (a 15 99) (a 13) (a 14) (a 18) H.size (S 0) (S 12) (S 18) (xs (i + 1)) (v, sMn1, sJo1) g1) (cwV 1 hts (gcV_X10_seed (mB64 _ (List.mem_of_getElem? (i := 11) rfl))) rfl rfl rfl hdV_X10_seed ⟨(Nat.le_of_ble_eq_true rfl), (Nat.le_of_ble_eq_true rfl)⟩) hK hP hD hS hA [0, 12, 18] rfl rfl (by decide) (fl3 _ _ _) (fl3 _ _ _) rfl rfl rfl (va_recv hK (va_PL (cc := [wMn K (a 0) (a 17 0) (a 18 99) (a 19 99) (a 1 99) (a 2 99) (a 5 99) (a 9 99) (a 11 99) (a 12 99) (a 16 99) (S 0)]) hP rfl [0] rfl (fl1 _)) (ci := 9) (q0 := 0) rfl o_Mn) rfl hl.1 rfl (Nat.le_of_ble_eq_true rfl) dL_law_1991 hcs (fun H locs hP hD hS => ?_)
  refine lv_aload_n hx hb dL_law_1994 rfl (lv_at hl 2 rfl) ?_
  refine sc_row hx hb hX hbl hbA hS (lv_at hl 0 rfl) (lv_at hl 4 rfl) hi hL (k := 1) (by decide) dL_law_1995 dL_law_1996 dL_law_1998 rfl dL_law_1999 dL_law_2000 ?_
  refine rk_Vi (wn := (wL K a (uN (uN (uN S 0 sMn1) 12 sJo1) 20 sMo1)).flatten) (wL K a (uN (uN S 0 sMn1) 12 sJo1)) [wMo K (a 20) ((uN (uN S 0 sMn1) 12 sJo1) 20)] [wMo K (a 20) sMo1] (wL K a (uN (uN (uN S 0 sMn1) 12 sJo1) 20 sMo1)) (As := [.int (xs (i + 1))]) (rest := [.int v]) ⟨hx, hb, hml, hown, hts⟩ (c_X11_seed l D K FF (a 20) H.size ((uN (uN S 0 sMn1) 12 sJo1) 20) (xs (i + 1)) (v, sMo1) g2) (cwV 1 hts (gcV_X11_seed (mB64 _ (List.mem_of_getElem? (i := 15) rfl))) rfl rfl rfl hdV_X11_seed ⟨(Nat.le_of_ble_eq_true rfl), (Nat.le_of_ble_eq_true rfl)⟩) hK hP hD hS hA [20] rfl rfl (by decide) (fl1 _) (fl1 _) rfl rfl rfl (va_recv hK (va_PL (cc := [wMo K (a 20) ((uN (uN S 0 sMn1) 12 sJo1) 20)]) hP rfl [20] rfl (fl1 _)) (ci := 10) (q0 := 0) rfl o_Mo) rfl hl.1 rfl (Nat.le_of_ble_eq_true rfl) dL_law_2001 hcs (fun H locs hP hD hS => ?_)
  refine lv_icmp_eq (tgt := 2154) hx hb dL_law_2004 (by decide) (fun _ => ?_) (fun c1 => absurd rfl c1)
  exact nx a (uN (uN (uN S 0 sMn1) 12 sJo1) 20 sMo1) H locs ls cells slots (by omega) (by omega) R1 hP hD hS hl

set_option maxHeartbeats 4000000 in
set_option maxRecDepth 100000 in
theorem law_undo {p : Program} {l : Launch} {e : Env} {s : State} {m : MethodId} {below : List Frame} {meth : Method} {c : Code} {b L : Nat} {xs : Nat → Int32} {D : va_G} {K : Nat → ClassId} {adK adV : Nat → Nat} {tF sa : Nat} (X : LCx p l s m c b L xs D K adK adV tF sa) {i : Nat} (hi : i + 6 ≤ L) (nx : LGo p l e s m below meth c b D K 2154 i 6) : LGo p l e s m below meth c b D K 2009 i 0 := by
  obtain ⟨hx, hb, hml, hown, hts, hX, hbl, hK, hZ, hZl, hlf, hL⟩ := X
  intro a S H locs ls cells slots hc hs hE hP hD hS hl
  have hA : ∀ q : Nat, s.heap.size ≤ q → (fun q : Nat => s.heap.size ≤ q) q := fun _ h => h
  have hbA : ¬ (fun q : Nat => s.heap.size ≤ q) b := Nat.not_le.mpr hbl
  have hcs := lroom hc hs (by omega)
  obtain ⟨v, sMn1, sJo1, sMo1, g1, g2, tt, x0⟩ := P_undo (F := FF) (sMn := (S 0)) (sJo := (S 12)) (sJk := (S 13)) (sJi := (S 14)) (sMo := (S 20)) (Nat.le_of_ble_eq_true rfl) hE.2.1 hE.2.2.2.1
  have R1 := REL_J hE tt (n4_undo _ g1) x0
  refine lv_aload_n hx hb dL_law_2009 rfl (lv_at hl 1 rfl) ?_
  refine rk_Vi (wn := (wL K a (uN (uN S 0 sMn1) 12 sJo1)).flatten) (wL K a S) [wMn K (a 0) (a 17 0) (a 18 99) (a 19 99) (a 1 99) (a 2 99) (a 5 99) (a 9 99) (a 11 99) (a 12 99) (a 16 99) (S 0), wJo K (a 12) (a 15 99) (a 13) (a 14) (S 12), wJk K (a 13) (S 13)] [wMn K (a 0) (a 17 0) (a 18 99) (a 19 99) (a 1 99) (a 2 99) (a 5 99) (a 9 99) (a 11 99) (a 12 99) (a 16 99) sMn1, wJo K (a 12) (a 15 99) (a 13) (a 14) sJo1, wJk K (a 13) (S 13)] (wL K a (uN (uN S 0 sMn1) 12 sJo1)) (As := []) (rest := []) ⟨hx, hb, hml, hown, hts⟩ (c_X10_undo l D K FF (a 0) (a 17 0) (a 18 99) (a 19 99) (a 1 99) (a 2 99) (a 5 99) (a 9 99) (a 11 99) (a 16 99) (a 12) (a 15 99) (a 14) (a 13) H.size (S 0) (S 12) (S 13) (v, sMn1, sJo1) g1) (cwV 0 hts (gcV_X10_undo (mB64 _ (List.mem_of_getElem? (i := 19) rfl))) rfl rfl rfl hdV_X10_undo ⟨(Nat.le_of_ble_eq_true rfl), (Nat.le_of_ble_eq_true rfl)⟩) hK hP hD hS hA [0, 12, 13] rfl rfl (by decide) (fl3 _ _ _) (fl3 _ _ _) rfl rfl rfl (va_recv hK (va_PL (cc := [wMn K (a 0) (a 17 0) (a 18 99) (a 19 99) (a 1 99) (a 2 99) (a 5 99) (a 9 99) (a 11 99) (a 12 99) (a 16 99) (S 0)]) hP rfl [0] rfl (fl1 _)) (ci := 9) (q0 := 0) rfl o_Mn) rfl hl.1 rfl (Nat.le_of_ble_eq_true rfl) dL_law_2010 hcs (fun H locs hP hD hS => ?_)
  refine lv_aload_n hx hb dL_law_2013 rfl (lv_at hl 2 rfl) ?_
  refine rk_Vi (wn := (wL K a (uN (uN (uN S 0 sMn1) 12 sJo1) 20 sMo1)).flatten) (wL K a (uN (uN S 0 sMn1) 12 sJo1)) [wMo K (a 20) ((uN (uN S 0 sMn1) 12 sJo1) 20)] [wMo K (a 20) sMo1] (wL K a (uN (uN (uN S 0 sMn1) 12 sJo1) 20 sMo1)) (As := []) (rest := [.int v]) ⟨hx, hb, hml, hown, hts⟩ (c_X11_undo l D K FF (a 20) H.size ((uN (uN S 0 sMn1) 12 sJo1) 20) (v, sMo1) g2) (cwV 0 hts (gcV_X11_undo (mB65 _ (List.mem_of_getElem? (i := 4) rfl))) rfl rfl rfl hdV_X11_undo ⟨(Nat.le_of_ble_eq_true rfl), (Nat.le_of_ble_eq_true rfl)⟩) hK hP hD hS hA [20] rfl rfl (by decide) (fl1 _) (fl1 _) rfl rfl rfl (va_recv hK (va_PL (cc := [wMo K (a 20) ((uN (uN S 0 sMn1) 12 sJo1) 20)]) hP rfl [20] rfl (fl1 _)) (ci := 10) (q0 := 0) rfl o_Mo) rfl hl.1 rfl (Nat.le_of_ble_eq_true rfl) dL_law_2014 hcs (fun H locs hP hD hS => ?_)
  refine lv_icmp_eq (tgt := 2154) hx hb dL_law_2017 (by decide) (fun _ => ?_) (fun c1 => absurd rfl c1)
  exact nx a (uN (uN (uN S 0 sMn1) 12 sJo1) 20 sMo1) H locs ls cells slots (by omega) (by omega) R1 hP hD hS hl

set_option maxHeartbeats 4000000 in
set_option maxRecDepth 100000 in
theorem law_image {p : Program} {l : Launch} {e : Env} {s : State} {m : MethodId} {below : List Frame} {meth : Method} {c : Code} {b L : Nat} {xs : Nat → Int32} {D : va_G} {K : Nat → ClassId} {adK adV : Nat → Nat} {tF sa : Nat} (X : LCx p l s m c b L xs D K adK adV tF sa) {i : Nat} (hi : i + 6 ≤ L) (nx : LGo p l e s m below meth c b D K 2154 i 6) : LGo p l e s m below meth c b D K 2022 i 0 := by
  obtain ⟨hx, hb, hml, hown, hts, hX, hbl, hK, hZ, hZl, hlf, hL⟩ := X
  intro a S H locs ls cells slots hc hs hE hP hD hS hl
  have hA : ∀ q : Nat, s.heap.size ≤ q → (fun q : Nat => s.heap.size ≤ q) q := fun _ h => h
  have hbA : ¬ (fun q : Nat => s.heap.size ≤ q) b := Nat.not_le.mpr hbl
  have hcs := lroom hc hs (by omega)
  obtain ⟨v, sMn1, sJo1, sJi1, sMo1, g1, g2, tt, x0⟩ := P_image (F := FF) (sMn := (S 0)) (sRo := (S 18)) (sJo := (S 12)) (sJk := (S 13)) (sJi := (S 14)) (sMo := (S 20)) (Nat.le_of_ble_eq_true rfl) hE.1 hE.2.1 hE.2.2.2.1
  have R1 := REL_J hE tt (n4_image _ g1) x0
  refine lv_aload_n hx hb dL_law_2022 rfl (lv_at hl 1 rfl) ?_
  refine rk_Vi (wn := (wL K a (uN (uN (uN S 0 sMn1) 12 sJo1) 14 sJi1)).flatten) (wL K a S) [wMn K (a 0) (a 17 0) (a 18 99) (a 19 99) (a 1 99) (a 2 99) (a 5 99) (a 9 99) (a 11 99) (a 12 99) (a 16 99) (S 0), wJo K (a 12) (a 15 99) (a 13) (a 14) (S 12), wJi K (a 14) (S 14), wRo K (a 18) (S 18)] [wMn K (a 0) (a 17 0) (a 18 99) (a 19 99) (a 1 99) (a 2 99) (a 5 99) (a 9 99) (a 11 99) (a 12 99) (a 16 99) sMn1, wJo K (a 12) (a 15 99) (a 13) (a 14) sJo1, wJi K (a 14) sJi1, wRo K (a 18) (S 18)] (wL K a (uN (uN (uN S 0 sMn1) 12 sJo1) 14 sJi1)) (As := []) (rest := []) ⟨hx, hb, hml, hown, hts⟩ (c_X10_image l D K FF (a 0) (a 17 0) (a 19 99) (a 1 99) (a 2 99) (a 5 99) (a 9 99) (a 11 99) (a 16 99) (a 12) (a 15 99) (a 13) (a 14) (a 18) H.size (S 0) (S 12) (S 14) (S 18) (v, sMn1, sJo1, sJi1) g1) (cwV 0 hts (gcV_X10_image (mB65 _ (List.mem_of_getElem? (i := 8) rfl))) rfl rfl rfl hdV_X10_image ⟨(Nat.le_of_ble_eq_true rfl), (Nat.le_of_ble_eq_true rfl)⟩) hK hP hD hS hA [0, 12, 14, 18] rfl rfl (by decide) (fl4 _ _ _ _) (fl4 _ _ _ _) rfl rfl rfl (va_recv hK (va_PL (cc := [wMn K (a 0) (a 17 0) (a 18 99) (a 19 99) (a 1 99) (a 2 99) (a 5 99) (a 9 99) (a 11 99) (a 12 99) (a 16 99) (S 0)]) hP rfl [0] rfl (fl1 _)) (ci := 9) (q0 := 0) rfl o_Mn) rfl hl.1 rfl (Nat.le_of_ble_eq_true rfl) dL_law_2023 hcs (fun H locs hP hD hS => ?_)
  refine lv_aload_n hx hb dL_law_2026 rfl (lv_at hl 2 rfl) ?_
  refine rk_Vi (wn := (wL K a (uN (uN (uN (uN S 0 sMn1) 12 sJo1) 14 sJi1) 20 sMo1)).flatten) (wL K a (uN (uN (uN S 0 sMn1) 12 sJo1) 14 sJi1)) [wMo K (a 20) ((uN (uN (uN S 0 sMn1) 12 sJo1) 14 sJi1) 20)] [wMo K (a 20) sMo1] (wL K a (uN (uN (uN (uN S 0 sMn1) 12 sJo1) 14 sJi1) 20 sMo1)) (As := []) (rest := [.int v]) ⟨hx, hb, hml, hown, hts⟩ (c_X11_image l D K FF (a 20) H.size ((uN (uN (uN S 0 sMn1) 12 sJo1) 14 sJi1) 20) (v, sMo1) g2) (cwV 0 hts (gcV_X11_image (mB65 _ (List.mem_of_getElem? (i := 17) rfl))) rfl rfl rfl hdV_X11_image ⟨(Nat.le_of_ble_eq_true rfl), (Nat.le_of_ble_eq_true rfl)⟩) hK hP hD hS hA [20] rfl rfl (by decide) (fl1 _) (fl1 _) rfl rfl rfl (va_recv hK (va_PL (cc := [wMo K (a 20) ((uN (uN (uN S 0 sMn1) 12 sJo1) 14 sJi1) 20)]) hP rfl [20] rfl (fl1 _)) (ci := 10) (q0 := 0) rfl o_Mo) rfl hl.1 rfl (Nat.le_of_ble_eq_true rfl) dL_law_2027 hcs (fun H locs hP hD hS => ?_)
  refine lv_icmp_eq (tgt := 2154) hx hb dL_law_2030 (by decide) (fun _ => ?_) (fun c1 => absurd rfl c1)
  exact nx a (uN (uN (uN (uN S 0 sMn1) 12 sJo1) 14 sJi1) 20 sMo1) H locs ls cells slots (by omega) (by omega) R1 hP hD hS hl

set_option maxHeartbeats 4000000 in
set_option maxRecDepth 100000 in
theorem law_back {p : Program} {l : Launch} {e : Env} {s : State} {m : MethodId} {below : List Frame} {meth : Method} {c : Code} {b L : Nat} {xs : Nat → Int32} {D : va_G} {K : Nat → ClassId} {adK adV : Nat → Nat} {tF sa : Nat} (X : LCx p l s m c b L xs D K adK adV tF sa) {i : Nat} (hi : i + 6 ≤ L) (nx : LGo p l e s m below meth c b D K 2154 i 6) : LGo p l e s m below meth c b D K 2035 i 0 := by
  obtain ⟨hx, hb, hml, hown, hts, hX, hbl, hK, hZ, hZl, hlf, hL⟩ := X
  intro a S H locs ls cells slots hc hs hE hP hD hS hl
  have hA : ∀ q : Nat, s.heap.size ≤ q → (fun q : Nat => s.heap.size ≤ q) q := fun _ h => h
  have hbA : ¬ (fun q : Nat => s.heap.size ≤ q) b := Nat.not_le.mpr hbl
  have hcs := lroom hc hs (by omega)
  obtain ⟨v, sMn1, sJo1, sMo1, g1, g2, tt, x0⟩ := P_back (F := FF) (sMn := (S 0)) (sJo := (S 12)) (sJk := (S 13)) (sJi := (S 14)) (sMo := (S 20)) (Nat.le_of_ble_eq_true rfl) hE.2.1 hE.2.2.2.1 (xs (i + 1))
  have R1 := REL_J hE tt (n4_back _ g1) x0
  refine lv_aload_n hx hb dL_law_2035 rfl (lv_at hl 1 rfl) ?_
  refine sc_row hx hb hX hbl hbA hS (lv_at hl 0 rfl) (lv_at hl 4 rfl) hi hL (k := 1) (by decide) dL_law_2036 dL_law_2037 dL_law_2039 rfl dL_law_2040 dL_law_2041 ?_
  refine rk_Vi (wn := (wL K a (uN (uN S 0 sMn1) 12 sJo1)).flatten) (wL K a S) [wMn K (a 0) (a 17 0) (a 18 99) (a 19 99) (a 1 99) (a 2 99) (a 5 99) (a 9 99) (a 11 99) (a 12 99) (a 16 99) (S 0), wJo K (a 12) (a 15 99) (a 13) (a 14) (S 12), wJi K (a 14) (S 14)] [wMn K (a 0) (a 17 0) (a 18 99) (a 19 99) (a 1 99) (a 2 99) (a 5 99) (a 9 99) (a 11 99) (a 12 99) (a 16 99) sMn1, wJo K (a 12) (a 15 99) (a 13) (a 14) sJo1, wJi K (a 14) (S 14)] (wL K a (uN (uN S 0 sMn1) 12 sJo1)) (As := [.int (xs (i + 1))]) (rest := []) ⟨hx, hb, hml, hown, hts⟩ (c_X10_back l D K FF (a 0) (a 17 0) (a 18 99) (a 19 99) (a 1 99) (a 2 99) (a 5 99) (a 9 99) (a 11 99) (a 16 99) (a 12) (a 15 99) (a 13) (a 14) H.size (S 0) (S 12) (S 14) (xs (i + 1)) (v, sMn1, sJo1) g1) (cwV 1 hts (gcV_X10_back (mB65 _ (List.mem_of_getElem? (i := 21) rfl))) rfl rfl rfl hdV_X10_back ⟨(Nat.le_of_ble_eq_true rfl), (Nat.le_of_ble_eq_true rfl)⟩) hK hP hD hS hA [0, 12, 14] rfl rfl (by decide) (fl3 _ _ _) (fl3 _ _ _) rfl rfl rfl (va_recv hK (va_PL (cc := [wMn K (a 0) (a 17 0) (a 18 99) (a 19 99) (a 1 99) (a 2 99) (a 5 99) (a 9 99) (a 11 99) (a 12 99) (a 16 99) (S 0)]) hP rfl [0] rfl (fl1 _)) (ci := 9) (q0 := 0) rfl o_Mn) rfl hl.1 rfl (Nat.le_of_ble_eq_true rfl) dL_law_2042 hcs (fun H locs hP hD hS => ?_)
  refine lv_aload_n hx hb dL_law_2045 rfl (lv_at hl 2 rfl) ?_
  refine sc_row hx hb hX hbl hbA hS (lv_at hl 0 rfl) (lv_at hl 4 rfl) hi hL (k := 1) (by decide) dL_law_2046 dL_law_2047 dL_law_2049 rfl dL_law_2050 dL_law_2051 ?_
  refine rk_Vi (wn := (wL K a (uN (uN (uN S 0 sMn1) 12 sJo1) 20 sMo1)).flatten) (wL K a (uN (uN S 0 sMn1) 12 sJo1)) [wMo K (a 20) ((uN (uN S 0 sMn1) 12 sJo1) 20)] [wMo K (a 20) sMo1] (wL K a (uN (uN (uN S 0 sMn1) 12 sJo1) 20 sMo1)) (As := [.int (xs (i + 1))]) (rest := [.int v]) ⟨hx, hb, hml, hown, hts⟩ (c_X11_back l D K FF (a 20) H.size ((uN (uN S 0 sMn1) 12 sJo1) 20) (xs (i + 1)) (v, sMo1) g2) (cwV 1 hts (gcV_X11_back (mB66 _ (List.mem_of_getElem? (i := 5) rfl))) rfl rfl rfl hdV_X11_back ⟨(Nat.le_of_ble_eq_true rfl), (Nat.le_of_ble_eq_true rfl)⟩) hK hP hD hS hA [20] rfl rfl (by decide) (fl1 _) (fl1 _) rfl rfl rfl (va_recv hK (va_PL (cc := [wMo K (a 20) ((uN (uN S 0 sMn1) 12 sJo1) 20)]) hP rfl [20] rfl (fl1 _)) (ci := 10) (q0 := 0) rfl o_Mo) rfl hl.1 rfl (Nat.le_of_ble_eq_true rfl) dL_law_2052 hcs (fun H locs hP hD hS => ?_)
  refine lv_icmp_eq (tgt := 2154) hx hb dL_law_2055 (by decide) (fun _ => ?_) (fun c1 => absurd rfl c1)
  exact nx a (uN (uN (uN S 0 sMn1) 12 sJo1) 20 sMo1) H locs ls cells slots (by omega) (by omega) R1 hP hD hS hl

set_option maxHeartbeats 4000000 in
set_option maxRecDepth 100000 in
theorem law_size {p : Program} {l : Launch} {e : Env} {s : State} {m : MethodId} {below : List Frame} {meth : Method} {c : Code} {b L : Nat} {xs : Nat → Int32} {D : va_G} {K : Nat → ClassId} {adK adV : Nat → Nat} {tF sa : Nat} (X : LCx p l s m c b L xs D K adK adV tF sa) {i : Nat} (hi : i + 6 ≤ L) (nx : LGo p l e s m below meth c b D K 2154 i 6) : LGo p l e s m below meth c b D K 2116 i 0 := by
  obtain ⟨hx, hb, hml, hown, hts, hX, hbl, hK, hZ, hZl, hlf, hL⟩ := X
  intro a S H locs ls cells slots hc hs hE hP hD hS hl
  have hA : ∀ q : Nat, s.heap.size ≤ q → (fun q : Nat => s.heap.size ≤ q) q := fun _ h => h
  have hbA : ¬ (fun q : Nat => s.heap.size ≤ q) b := Nat.not_le.mpr hbl
  have hcs := lroom hc hs (by omega)
  obtain ⟨v, g1, g2⟩ := S_size (F := FF) hE (xs (i + 1))
  have R1 := REL_0 hE 0
  refine lv_aload_n hx hb dL_law_2116 rfl (lv_at hl 1 rfl) ?_
  refine sc_row hx hb hX hbl hbA hS (lv_at hl 0 rfl) (lv_at hl 4 rfl) hi hL (k := 1) (by decide) dL_law_2117 dL_law_2118 dL_law_2120 rfl dL_law_2121 dL_law_2122 ?_
  refine ro_Vi (As := [.int (xs (i + 1))]) (rest := []) ⟨hx, hb, hml, hown, hts⟩ (c_X10_size l D K FF (a 0) (a 17 0) (a 19 99) (a 1 99) (a 2 99) (a 5 99) (a 9 99) (a 11 99) (a 16 99) (a 12) (a 15 99) (a 13) (a 14) (a 18) (S 0) (S 12) (S 18) (xs (i + 1)) v g1) (cwV 1 hts (gcV_X10_size (mB67 _ (List.mem_of_getElem? (i := 10) rfl))) rfl rfl rfl hdV_X10_size ⟨(Nat.le_of_ble_eq_true rfl), (Nat.le_of_ble_eq_true rfl)⟩) hK hP hS (va_PL (cc := [wMn K (a 0) (a 17 0) (a 18 99) (a 19 99) (a 1 99) (a 2 99) (a 5 99) (a 9 99) (a 11 99) (a 12 99) (a 16 99) (S 0), wJo K (a 12) (a 15 99) (a 13) (a 14) (S 12), wRo K (a 18) (S 18)]) hP rfl [0, 12, 18] rfl (fl3 _ _ _)) (va_recv hK (va_PL (cc := [wMn K (a 0) (a 17 0) (a 18 99) (a 19 99) (a 1 99) (a 2 99) (a 5 99) (a 9 99) (a 11 99) (a 12 99) (a 16 99) (S 0)]) hP rfl [0] rfl (fl1 _)) (ci := 9) (q0 := 0) rfl o_Mn) rfl hl.1 rfl (Nat.le_of_ble_eq_true rfl) dL_law_2123 hcs (fun H locs hP hS => ?_)
  refine lv_aload_n hx hb dL_law_2126 rfl (lv_at hl 2 rfl) ?_
  refine sc_row hx hb hX hbl hbA hS (lv_at hl 0 rfl) (lv_at hl 4 rfl) hi hL (k := 1) (by decide) dL_law_2127 dL_law_2128 dL_law_2130 rfl dL_law_2131 dL_law_2132 ?_
  refine rk_Vi (wn := (wL K a (uN S 20 (sI (S 20) 0 0))).flatten) (wL K a S) [wMo K (a 20) (S 20)] [wMo K (a 20) (sI (S 20) 0 0)] (wL K a (uN S 20 (sI (S 20) 0 0))) (As := [.int (xs (i + 1))]) (rest := [.int v]) ⟨hx, hb, hml, hown, hts⟩ (c_X11_size l D K FF (a 20) H.size (S 20) (xs (i + 1)) (v, sI (S 20) 0 0) g2) (cwV 1 hts (gcV_X11_size (mB67 _ (List.mem_of_getElem? (i := 18) rfl))) rfl rfl rfl hdV_X11_size ⟨(Nat.le_of_ble_eq_true rfl), (Nat.le_of_ble_eq_true rfl)⟩) hK hP hD hS hA [20] rfl rfl (by decide) (fl1 _) (fl1 _) rfl rfl rfl (va_recv hK (va_PL (cc := [wMo K (a 20) (S 20)]) hP rfl [20] rfl (fl1 _)) (ci := 10) (q0 := 0) rfl o_Mo) rfl hl.1 rfl (Nat.le_of_ble_eq_true rfl) dL_law_2133 hcs (fun H locs hP hD hS => ?_)
  refine lv_icmp_eq (tgt := 2154) hx hb dL_law_2136 (by decide) (fun _ => ?_) (fun c1 => absurd rfl c1)
  exact nx a (uN S 20 (sI (S 20) 0 0)) H locs ls cells slots (by omega) (by omega) R1 hP hD hS hl

set_option maxHeartbeats 4000000 in
set_option maxRecDepth 100000 in
theorem law_trouble {p : Program} {l : Launch} {e : Env} {s : State} {m : MethodId} {below : List Frame} {meth : Method} {c : Code} {b L : Nat} {xs : Nat → Int32} {D : va_G} {K : Nat → ClassId} {adK adV : Nat → Nat} {tF sa : Nat} (X : LCx p l s m c b L xs D K adK adV tF sa) {i : Nat} (hi : i + 6 ≤ L) (nx : LGo p l e s m below meth c b D K 2154 i 6) : LGo p l e s m below meth c b D K 2141 i 0 := by
  obtain ⟨hx, hb, hml, hown, hts, hX, hbl, hK, hZ, hZl, hlf, hL⟩ := X
  intro a S H locs ls cells slots hc hs hE hP hD hS hl
  have hA : ∀ q : Nat, s.heap.size ≤ q → (fun q : Nat => s.heap.size ≤ q) q := fun _ h => h
  have hbA : ¬ (fun q : Nat => s.heap.size ≤ q) b := Nat.not_le.mpr hbl
  have hcs := lroom hc hs (by omega)
  obtain ⟨v, g1, g2⟩ := S_trouble (F := FF) hE
  have R1 := REL_0 hE 0
  refine lv_aload_n hx hb dL_law_2141 rfl (lv_at hl 1 rfl) ?_
  refine ro_Vi (As := []) (rest := []) ⟨hx, hb, hml, hown, hts⟩ (c_X10_trouble l D K FF (a 0) (a 17 0) (a 18 99) (a 19 99) (a 1 99) (a 2 99) (a 5 99) (a 9 99) (a 11 99) (a 12 99) (a 16 99) (S 0) v g1) (cwV 0 hts (gcV_X10_trouble (mB67 _ (List.mem_of_getElem? (i := 22) rfl))) rfl rfl rfl hdV_X10_trouble ⟨(Nat.le_of_ble_eq_true rfl), (Nat.le_of_ble_eq_true rfl)⟩) hK hP hS (va_PL (cc := [wMn K (a 0) (a 17 0) (a 18 99) (a 19 99) (a 1 99) (a 2 99) (a 5 99) (a 9 99) (a 11 99) (a 12 99) (a 16 99) (S 0)]) hP rfl [0] rfl (fl1 _)) (va_recv hK (va_PL (cc := [wMn K (a 0) (a 17 0) (a 18 99) (a 19 99) (a 1 99) (a 2 99) (a 5 99) (a 9 99) (a 11 99) (a 12 99) (a 16 99) (S 0)]) hP rfl [0] rfl (fl1 _)) (ci := 9) (q0 := 0) rfl o_Mn) rfl hl.1 rfl (Nat.le_of_ble_eq_true rfl) dL_law_2142 hcs (fun H locs hP hS => ?_)
  refine lv_aload_n hx hb dL_law_2145 rfl (lv_at hl 2 rfl) ?_
  refine rk_Vi (wn := (wL K a (uN S 20 (sI (S 20) 0 0))).flatten) (wL K a S) [wMo K (a 20) (S 20)] [wMo K (a 20) (sI (S 20) 0 0)] (wL K a (uN S 20 (sI (S 20) 0 0))) (As := []) (rest := [.int v]) ⟨hx, hb, hml, hown, hts⟩ (c_X11_trouble l D K FF (a 20) H.size (S 20) (v, sI (S 20) 0 0) g2) (cwV 0 hts (gcV_X11_trouble (mB68 _ (List.mem_of_getElem? (i := 2) rfl))) rfl rfl rfl hdV_X11_trouble ⟨(Nat.le_of_ble_eq_true rfl), (Nat.le_of_ble_eq_true rfl)⟩) hK hP hD hS hA [20] rfl rfl (by decide) (fl1 _) (fl1 _) rfl rfl rfl (va_recv hK (va_PL (cc := [wMo K (a 20) (S 20)]) hP rfl [20] rfl (fl1 _)) (ci := 10) (q0 := 0) rfl o_Mo) rfl hl.1 rfl (Nat.le_of_ble_eq_true rfl) dL_law_2146 hcs (fun H locs hP hD hS => ?_)
  refine lv_icmp_eq (tgt := 2154) hx hb dL_law_2149 (by decide) (fun _ => ?_) (fun c1 => absurd rfl c1)
  exact nx a (uN S 20 (sI (S 20) 0 0)) H locs ls cells slots (by omega) (by omega) R1 hP hD hS hl
