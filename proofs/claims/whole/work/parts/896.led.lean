/-! led -/
abbrev NSE : String := "java/util/NoSuchElementException"
abbrev nsN : List String := ["java/lang/RuntimeException", "java/lang/Exception"]
abbrev ngB : List Cond := [.castable NSE NSE, .declares (Bundle.initS "java/lang/RuntimeException"), .declares (Bundle.initS "java/lang/Exception"), .declares (Bundle.initS Bundle.tN)]
abbrev NGs (U : State) : Prop := va_Nw (.castable NSE NSE) U ∧ va_Nw (.declares (Bundle.initS "java/lang/RuntimeException")) U ∧ va_Nw (.declares (Bundle.initS "java/lang/Exception")) U ∧ va_Nw (.declares (Bundle.initS Bundle.tN)) U
def LDs (sa : Nat) (A : Nat → Prop) (U : State) : Prop := NGs U ∧ vk_R RX10 356 "no such place" sa U ∧ vx_Zq Bundle.tN "UNASSIGNED_STACK" Bundle.steD A U U.heap ∧ vx_Zq Bundle.tN "SUPPRESSED_SENTINEL" Bundle.listD A U U.heap
theorem LDs_at {sa : Nat} {A B : Nat → Prop} {s U : State} {H : Heap} {locs : List Loc} (hZ : LDs sa A s) (hS : va_S A s.heap H locs) (hBA : ∀ q, B q → A q) (hU : U.heap = H) (hW : s.WarmedH U.vm) : LDs sa B U := by
  obtain ⟨⟨a1, a2, a3, a4⟩, h2, h3, h4⟩ := hZ
  refine ⟨⟨va_Nw.warmC hW a1, va_Nw.warmD hW a2, va_Nw.warmD hW a3, va_Nw.warmD hW a4⟩, vk_R.warm hW h2, ?_, ?_⟩
  · rw [hU]; exact vx_Zq.moved hW.alike ((h3.kept hS.2.1).narrow hBA)
  · rw [hU]; exact vx_Zq.moved hW.alike ((h4.kept hS.2.1).narrow hBA)
theorem LDs_bl {sa : Nat} {B : Nat → Prop} {U : State} {g : JFrame} {mk : MethodId} {a : Array Value} (h : LDs sa B U) : LDs sa B (U.calling g mk a) := by
  obtain ⟨⟨a1, a2, a3, a4⟩, h2, h3, h4⟩ := h
  exact ⟨⟨va_Nw.same rfl rfl a1, va_Nw.same rfl rfl a2, va_Nw.same rfl rfl a3, va_Nw.same rfl rfl a4⟩, vk_R.same (u := U) rfl h2, vx_Zq.moved (u := U) (U := U.calling g mk a) (Vm.Alike.refl U.vm) h3, vx_Zq.moved (u := U) (U := U.calling g mk a) (Vm.Alike.refl U.vm) h4⟩
abbrev PXl (D : va_G) (K : Nat → ClassId) (sa : Nat) (ws : va_W) : State → Prop := fun U => PR D K ws U ∧ LDs sa nOne U
theorem bl_Xl {D : va_G} {K : Nat → ClassId} {sa : Nat} {ws : va_W} {av : List Value} : FrameBlind (va_Pc av (PXl D K sa ws)) := fun a U g mk q => ⟨q.1, (bl_R (av := av) a U g mk ⟨q.1, q.2.1⟩).2, LDs_bl q.2.2⟩
abbrev PWl (D : va_G) (K : Nat → ClassId) (sa : Nat) (ws : va_W) (sz : Nat) : State → Prop := fun U => PW D K ws sz U ∧ LDs sa (va_A ws sz) U
theorem bl_Wl {D : va_G} {K : Nat → ClassId} {sa : Nat} {ws : va_W} {sz : Nat} {av : List Value} : FrameBlind (va_Pc av (PWl D K sa ws sz)) := fun a U g mk q => ⟨q.1, (bl_W (av := av) a U g mk ⟨q.1, q.2.1⟩).2, LDs_bl q.2.2⟩
theorem gcV_X3_openPlace {T0 : Cond} {own : String} {i : Nat} (h : Cond.methodLink own i yX3_openPlace ∈ wsL_law) : GoodIn (T0 :: wsL_law) (wsV own i RX3 yX3_openPlace wz_X3_openPlace) := gV h (mB66 _ (List.mem_of_getElem? (i := 21) rfl)) (mB66 _ (List.mem_of_getElem? (i := 22) rfl)) (mB2 _ (List.mem_of_getElem? (i := 18) rfl)) (mB66 _ (List.mem_of_getElem? (i := 23) rfl))
theorem hdV_X3_openPlace : yX3_openPlace.cls = RX3 ∧ yX3_openPlace.cls ≠ "java/lang/invoke/MethodHandle" ∧ yX3_openPlace.cls ≠ "java/lang/invoke/VarHandle" ∧ (parseMethodDescriptor yX3_openPlace.desc).map (fun d => d.parameters.length) = some 2 := by decide +kernel
def wz_X10_led : List Cond := .code yX10_led cX10_led 3 (some .int) :: wsL_law
abbrev r_X10_led : Room := { frames := 7, cells := 1, slots := 6, locals := 160 }
theorem ns_fit : Bundle.fit NSE = true := by decide +kernel
theorem ns_fits : ∀ n ∈ nsN, Bundle.fit n = true := by decide +kernel
theorem ns_good : ∀ w ∈ Cond.classLink RX10 354 NSE :: Cond.initialized NSE :: xatS, vx_ot w = true := by decide +kernel
theorem ns_rest : ∀ w ∈ xatS.filter (fun w => !goodWord w), w ∈ ngB := by decide +kernel
theorem wsL_xr : ∀ w ∈ xatS.filter goodWord, w ∈ wsL_law := fun _ h => List.mem_append_right _ h
theorem rx_0 : decode rx13 0 = .ok (.aload_n 0, 1) := by decide +kernel
theorem rx_1 : decode rx13 1 = .ok (.aload_n 1, 1) := by decide +kernel
theorem rx_2 : decode rx13 2 = .ok (.invokespecial 13, 3) := by decide +kernel
theorem rx_5 : decode rx13 5 = .ok (.return_, 1) := by decide +kernel
set_option maxHeartbeats 4000000 in
set_option maxRecDepth 100000 in
theorem c_X10_led (l : Launch) (hlf : l.stackTraces = false) (D : va_G) (K : Nat → ClassId) (F : Nat) (sa : Nat) (hMn : Nat → Nat) (rMn0 rMn3 rMn4 rMn5 rMn6 rMn7 rMn8 rMn10 : Nat) (hJo : Nat → Nat) (rJo6 : Nat) (gJo4 gJo5 : Nat → Nat) (hRo : Nat → Nat) (sMn sJo sRo : MS) (p1 : Int32) (res : Int32) (hf : f_X3_openPlace F sJo sRo p1 = some res) : vx_Met l yX10_led wz_X10_led r_X10_led (va_Pc [.ref (hMn 99), .int p1] (PXl D K sa (wMn K hMn rMn0 (hRo 99) rMn3 rMn4 rMn5 rMn6 rMn7 rMn8 (hJo 99) rMn10 sMn ++ wJo K hJo rJo6 gJo4 gJo5 sJo ++ wRo K hRo sRo))) (va_Qi (fun r (_ : Unit) => r = res ∧ ¬ res = -1) BN nOne) (vx_X (fun _ : Unit => res = -1) (fun E _ _ => E = NSE) nOne) 1 6 nOne := by
  refine vx_ofW (cc := cX10_led) (maxL := 3) (ret := some .int) (by decide) rfl ?_
  intro p e s m args below meth c s₁ B hml hno hv
  obtain ⟨hargs, ⟨hP, hK⟩, hZ⟩ := hv
  have hx := B.exec
  have hb := B.bytes
  have hr := B.returns
  have hts := atoms_spec (ws := wz_X10_led) B.pre
  have htl : ∀ w ∈ wsL_law, w.before args s = true := fun w h => hts w (List.mem_cons_of_mem _ h)
  have hown : s.vm.findClass RX10 = some m.cls := findClass_of_methodNamed B.named
  have hlocks := B.notSynchronized
  have hS : va_S nOne s.heap s.heap [] := va_S.rf
  have iX10 : ∀ w ∈ wsX100, w ∈ wz_X10_led := fun w h => List.mem_cons_of_mem _ (inlX10 w h)
  have hen : entryFrame m args 3 = entryFrame m (([.ref (hMn 99), .int p1] : List Value).toArray) 3 := by rw [hargs]
  have hl := lv_entry ([.ref (hMn 99), .int p1]) (n := 3) (Nat.le_of_ble_eq_true rfl)
  rw [hen, lg_entry_eq]
  generalize (lg_sl ([.ref (hMn 99), .int p1]) ++ List.replicate (3 - (lg_sl ([.ref (hMn 99), .int p1])).length) Slot.unset).toArray = ls at hl ⊢
  have hl : lv_has ls 3 [(0, .ref (hMn 99)), (1, .int p1)] := hl
  obtain ⟨Q, hQ⟩ : ∃ Q : State → Prop, Q = vx_MQ below (va_Qi (fun r (_ : Unit) => r = res ∧ ¬ res = -1) BN nOne) (vx_X (fun _ : Unit => res = -1) (fun E _ _ => E = NSE) nOne) args s 1 6 nOne := ⟨_, rfl⟩
  rw [← hQ]
  obtain ⟨H, hHe⟩ : ∃ z, z = s.heap := ⟨_, rfl⟩
  obtain ⟨locs, hLe⟩ : ∃ z : List Loc, z = [] := ⟨_, rfl⟩
  rw [← hLe]
  have hS : va_S nOne s.heap H locs := by rw [hHe, hLe]; exact hS
  have hP : va_P D vwCl (wMn K hMn rMn0 (hRo 99) rMn3 rMn4 rMn5 rMn6 rMn7 rMn8 (hJo 99) rMn10 sMn ++ wJo K hJo rJo6 gJo4 gJo5 sJo ++ wRo K hRo sRo) H := by rw [hHe]; exact hP
  suffices hgo : W p l e (headSpec wz_X10_led r_X10_led).room s m args below meth c H locs 0 0 Q (F0 m 0 ls []) by
    rw [hHe] at hgo
    exact hgo
  refine lv_aload_n hx hb dX10_led_0 rfl (lv_at hl 0 rfl) ?_
  refine va_get (D := D) (ci := 9) (v := .ref (hJo 99)) (C := RX10) (T := TX10) (N := 14) hx hb hts iX10 hown hK hP 0 (rwl (rwl o_Mn)) rfl 9 (by decide) (htl _ (mB2 _ (List.mem_of_getElem? (i := 19) rfl))) (fun _ h9 => h9) rfl dX10_led_1 ?_
  refine lv_aload_n hx hb dX10_led_4 rfl (lv_at hl 0 rfl) ?_
  refine va_get (D := D) (ci := 9) (v := .ref (hRo 99)) (C := RX10) (T := TX10) (N := 14) hx hb hts iX10 hown hK hP 0 (rwl (rwl o_Mn)) rfl 2 (by decide) (htl _ (mB1 _ (List.mem_of_getElem? (i := 18) rfl))) (fun _ h9 => h9) rfl dX10_led_5 ?_
  refine lv_iload_n hx hb dX10_led_8 rfl (lv_at hl 1 rfl) ?_
  refine ro_Vi (As := [.ref (hRo 99), .int p1]) (rest := []) ⟨hx, hb, hml, hown, hts⟩ (c_X3_openPlace l D K F hJo rJo6 gJo4 gJo5 hRo sJo sRo p1 res hf) (cwV 2 hts (gcV_X3_openPlace (mB66 _ (List.mem_of_getElem? (i := 20) rfl))) rfl rfl rfl hdV_X3_openPlace ⟨Nat.le_of_ble_eq_true rfl, Nat.le_of_ble_eq_true rfl⟩) hK hP hS (va_PL (cs := [wMn K hMn rMn0 (hRo 99) rMn3 rMn4 rMn5 rMn6 rMn7 rMn8 (hJo 99) rMn10 sMn, wJo K hJo rJo6 gJo4 gJo5 sJo, wRo K hRo sRo]) (cc := [wJo K hJo rJo6 gJo4 gJo5 sJo, wRo K hRo sRo]) hP (fl3 _ _ _) [1, 2] rfl (fl2 _ _)) (va_recv hK hP (ci := 3) (q0 := (1 + 0)) rfl (rwl (rwr ln_Mn o_Jo))) rfl hl.1 rfl (Nat.le_of_ble_eq_true rfl) dX10_led_9 ⟨Nat.zero_le _, Nat.zero_le _⟩ (fun H locs hP hS => ?_)
  refine lv_istore_n (lv' := [(2, .int res), (0, .ref (hMn 99)), (1, .int p1)]) hx hb dX10_led_12 rfl hl (by decide) rfl (fun ls hl => ?_)
  refine lv_iload_n hx hb dX10_led_13 rfl (lv_at hl 0 rfl) ?_
  refine lv_iconst (v := (-1 : Int32)) hx hb dX10_led_14 (by decide) ?_
  refine lv_icmp_ne (tgt := 29) hx hb dX10_led_15 (by decide) (fun c1 => ?_) (fun c1 => ?_)
  · refine lv_iload_n hx hb dX10_led_29 rfl (lv_at hl 0 rfl) ?_
    rw [hQ]
    refine vx_ret ?_
    refine W.widen (k := 1) (n := 6) (Nat.le_of_ble_eq_true rfl) (Nat.le_of_ble_eq_true rfl) ?_
    exact W.iret (v := res) hx hb hr (fun t ht hW => ⟨⟨res, (), rfl, ⟨rfl, c1⟩, trivial⟩, hS.F ht⟩) hS.2.2 dX10_led_30
  · rw [hQ]
    refine vx_throwX (ix := 13) (rx := rx13) rx_0 rx_1 rx_2 rx_5 (A := nOne) (own := RX10) (cls := NSE) (text := "no such place") (y9 := "java/lang/RuntimeException") (r9 := ["java/lang/Exception"]) (ik := 354) (is := 356) (ic := 358) (sa := sa) hx hb hlf hown ns_fit ns_fits (htl _ (mB66 _ (List.mem_of_getElem? (i := 18) rfl))) (htl _ (mB66 _ (List.mem_of_getElem? (i := 19) rfl))) hZ.2.1 (vx_hat (L := xatS) (B := ngB) (fun w h => htl w (wsL_xr w h)) ns_rest (vx_c (va_Nw.use rfl hZ.1.1) (vx_c (va_Nw.use rfl hZ.1.2.1) (vx_c (va_Nw.use rfl hZ.1.2.2.1) (vx_c (va_Nw.use rfl hZ.1.2.2.2) vx_n))))) ns_good hZ.2.2.1 hZ.2.2.2 hS (hl.1.trans hml.symm) dX10_led_18 dX10_led_21 dX10_led_22 dX10_led_25 dX10_led_28 (fun x hx9 => (hno x hx9).elim) (Nat.le_of_ble_eq_true rfl) (Nat.le_of_ble_eq_true rfl) (Nat.le_of_ble_eq_true rfl) (Nat.le_of_ble_eq_true rfl) hlocks (fun t hal hsz hk => ⟨(), c1, rfl, ⟨Nat.le_trans hS.1 hsz, fun q h1 h2 => (hk q (Nat.lt_of_lt_of_le h1 hS.1)).trans (hS.2.1 q h1 h2)⟩⟩) hS.2.2 (Nat.le_of_ble_eq_true rfl) (Nat.le_of_ble_eq_true rfl)
theorem met_ofWH {l : Launch} {y : MethodName} {ws ws' : List Cond} {rm : Room} {Pc : Array Value → State → Prop} {Qc : Array Value → State → Outcome → State → Prop} {mc ms : Nat} {free : Addr → Prop} {cc : ByteArray} {maxL : Nat} {ret : Option FieldType} {hh : List (Nat × Nat × Nat × Nat)}
    (hy : plainName y.cls = true) (hw : ws = Cond.codeWith y cc maxL ret hh :: ws')
    (body : ∀ p e s m args below meth c s₁, BodyLoose p l y (headSpec ws rm) cc maxL ret e s m args below meth c s₁ → c.maxLocals = maxL → Pc args s →
      W p l e (headSpec ws rm).room s m args below meth c s.heap [] 0 0 (MQ below Qc args s mc ms free) (entryFrame m args maxL)) : Met l y ws rm Pc Qc mc ms free := by
  refine MetFree.of_bodyS (code := cc) (maxLocals := maxL) (ret := ret) hy ?_ ?_
  · intro args s m h hn
    obtain ⟨m9, meth, c, hn9, h1, h2, h3, h4, -, h5, h6, -⟩ := Cond.codeWith_spec (atoms_spec (ws := ws) h _ (by rw [hw]; exact List.mem_cons_self))
    cases hn.symm.trans hn9
    exact ⟨meth, c, h1, h2, h3, h4, h5, h6⟩
  · intro p e s m args below meth c s₁ B hml hP _
    have hh0 : s₁.heap = s.heap := by rw [B.state]; rfl
    obtain ⟨t, a1, o, b1, b2, b3⟩ := body p e s m args below meth c s₁ B hml hP s₁ hh0 (Stand.of_body B)
    exact ⟨t, o, a1, b1, b2, b3⟩
abbrev hhL : List (Nat × Nat × Nat × Nat) := [(0, 9, 12, 13)]
def wz_L_led : List Cond := .codeWith yL_led cL_led 4 (some .int) hhL :: wsL_law
abbrev r_L_led : Room := { frames := 8, cells := 1, slots := 6, locals := 190 }
theorem gcV_X10_led {T0 : Cond} {own : String} {i : Nat} (h : Cond.methodLink own i yX10_led ∈ wsL_law) : GoodIn (T0 :: wsL_law) (wsV own i RX10 yX10_led wz_X10_led) := gV h (mB66 _ (List.mem_of_getElem? (i := 15) rfl)) (mB66 _ (List.mem_of_getElem? (i := 16) rfl)) (mB1 _ (List.mem_of_getElem? (i := 2) rfl)) (mB66 _ (List.mem_of_getElem? (i := 17) rfl))
theorem hdV_X10_led : yX10_led.cls = RX10 ∧ yX10_led.cls ≠ "java/lang/invoke/MethodHandle" ∧ yX10_led.cls ≠ "java/lang/invoke/VarHandle" ∧ (parseMethodDescriptor yX10_led.desc).map (fun d => d.parameters.length) = some 1 := by decide +kernel
set_option maxHeartbeats 4000000 in
set_option maxRecDepth 100000 in
theorem c_L_led (l : Launch) (hlf : l.stackTraces = false) (D : va_G) (K : Nat → ClassId) (F : Nat) (sa : Nat) (hMn : Nat → Nat) (rMn0 rMn3 rMn4 rMn5 rMn6 rMn7 rMn8 rMn10 : Nat) (hJo : Nat → Nat) (rJo6 : Nat) (gJo4 gJo5 : Nat → Nat) (hRo : Nat → Nat) (aO : Nat) (sz : Nat) (sMn sJo sRo : MS) (fO : Nat → Int64) (p1 : Int32) (res : Int32) (hf : f_X3_openPlace F sJo sRo p1 = some res) : Met l yL_led wz_L_led r_L_led (va_Pc [.ref (hMn 99), .int p1, .ref aO] (PWl D K sa (wMn K hMn rMn0 (hRo 99) rMn3 rMn4 rMn5 rMn6 rMn7 rMn8 (hJo 99) rMn10 sMn ++ wJo K hJo rJo6 gJo4 gJo5 sJo ++ wRo K hRo sRo ++ wAJ K aO 1 fO) sz)) (va_Qi (fun r (u : Nat → Int64) => (¬ res = -1 ∧ r = 0 ∧ u = vp_updL fO 0 res.toInt64) ∨ (res = -1 ∧ r = 1 ∧ u = fO)) (fun u t => BW D K (va_A (wMn K hMn rMn0 (hRo 99) rMn3 rMn4 rMn5 rMn6 rMn7 rMn8 (hJo 99) rMn10 sMn ++ wJo K hJo rJo6 gJo4 gJo5 sJo ++ wRo K hRo sRo ++ wAJ K aO 1 fO) sz) (wMn K hMn rMn0 (hRo 99) rMn3 rMn4 rMn5 rMn6 rMn7 rMn8 (hJo 99) rMn10 sMn ++ wJo K hJo rJo6 gJo4 gJo5 sJo ++ wRo K hRo sRo ++ wAJ K aO 1 u) t) (va_A (wMn K hMn rMn0 (hRo 99) rMn3 rMn4 rMn5 rMn6 rMn7 rMn8 (hJo 99) rMn10 sMn ++ wJo K hJo rJo6 gJo4 gJo5 sJo ++ wRo K hRo sRo ++ wAJ K aO 1 fO) sz)) 1 6 (va_A (wMn K hMn rMn0 (hRo 99) rMn3 rMn4 rMn5 rMn6 rMn7 rMn8 (hJo 99) rMn10 sMn ++ wJo K hJo rJo6 gJo4 gJo5 sJo ++ wRo K hRo sRo ++ wAJ K aO 1 fO) sz) := by
  refine met_ofWH (cc := cL_led) (maxL := 4) (ret := some .int) (hh := hhL) (by decide) rfl ?_
  intro p e s m args below meth c s₁ B hml hv
  obtain ⟨hargs, ⟨hsz, hP, hK, hD0⟩, hZ⟩ := hv
  have hx := B.exec
  have hb := B.bytes
  have hr := B.returns
  have hts := atoms_spec (ws := wz_L_led) B.pre
  have htl : ∀ w ∈ wsL_law, w.before args s = true := fun w h => hts w (List.mem_cons_of_mem _ h)
  have hown : s.vm.findClass RL = some m.cls := findClass_of_methodNamed B.named
  have hlocks := B.notSynchronized
  have htab : c.exceptionTable.toList = tableOf hhL := vx_table (x := yL_led) B (hts (.codeWith yL_led cL_led 4 (some .int) hhL) List.mem_cons_self)
  subst hsz
  have hD := hD0.self (sz := s.heap.size)
  generalize hAe : va_A (wMn K hMn rMn0 (hRo 99) rMn3 rMn4 rMn5 rMn6 rMn7 rMn8 (hJo 99) rMn10 sMn ++ wJo K hJo rJo6 gJo4 gJo5 sJo ++ wRo K hRo sRo ++ wAJ K aO 1 fO) s.heap.size = A at hD hZ ⊢
  have hA : ∀ q : Nat, s.heap.size ≤ q → A q := fun q h => by rw [← hAe]; exact Or.inr h
  have hS : va_S A s.heap s.heap [] := va_S.rf
  have hen : entryFrame m args 4 = entryFrame m (([.ref (hMn 99), .int p1, .ref aO] : List Value).toArray) 4 := by rw [hargs]
  have hl := lv_entry ([.ref (hMn 99), .int p1, .ref aO]) (n := 4) (Nat.le_of_ble_eq_true rfl)
  rw [hen, lg_entry_eq]
  generalize (lg_sl ([.ref (hMn 99), .int p1, .ref aO]) ++ List.replicate (4 - (lg_sl ([.ref (hMn 99), .int p1, .ref aO])).length) Slot.unset).toArray = ls at hl ⊢
  have hl : lv_has ls 4 [(0, .ref (hMn 99)), (1, .int p1), (2, .ref aO)] := hl
  obtain ⟨Q, hQ⟩ : ∃ Q : State → Prop, Q = MQ below (va_Qi (fun r (u : Nat → Int64) => (¬ res = -1 ∧ r = 0 ∧ u = vp_updL fO 0 res.toInt64) ∨ (res = -1 ∧ r = 1 ∧ u = fO)) (fun u t => BW D K A (wMn K hMn rMn0 (hRo 99) rMn3 rMn4 rMn5 rMn6 rMn7 rMn8 (hJo 99) rMn10 sMn ++ wJo K hJo rJo6 gJo4 gJo5 sJo ++ wRo K hRo sRo ++ wAJ K aO 1 u) t) A) args s 1 6 A := ⟨_, rfl⟩
  rw [← hQ]
  obtain ⟨H, hHe⟩ : ∃ z, z = s.heap := ⟨_, rfl⟩
  obtain ⟨locs, hLe⟩ : ∃ z : List Loc, z = [] := ⟨_, rfl⟩
  rw [← hLe]
  have hS : va_S A s.heap H locs := by rw [hHe, hLe]; exact hS
  have hP : va_P D vwCl (wMn K hMn rMn0 (hRo 99) rMn3 rMn4 rMn5 rMn6 rMn7 rMn8 (hJo 99) rMn10 sMn ++ wJo K hJo rJo6 gJo4 gJo5 sJo ++ wRo K hRo sRo ++ wAJ K aO 1 fO) H := by rw [hHe]; exact hP
  suffices hgo : W p l e (headSpec wz_L_led r_L_led).room s m args below meth c H locs 0 0 Q (F0 m 0 ls []) by
    rw [hHe] at hgo
    exact hgo
  refine lv_aload_n hx hb dL_led_0 rfl (lv_at hl 2 rfl) ?_
  refine lv_iconst (v := (0 : Int32)) hx hb dL_led_1 (by decide) ?_
  refine lv_aload_n hx hb dL_led_2 rfl (lv_at hl 0 rfl) ?_
  refine lv_iload_n hx hb dL_led_3 rfl (lv_at hl 1 rfl) ?_
  have hPc : va_P D vwCl (wMn K hMn rMn0 (hRo 99) rMn3 rMn4 rMn5 rMn6 rMn7 rMn8 (hJo 99) rMn10 sMn ++ wJo K hJo rJo6 gJo4 gJo5 sJo ++ wRo K hRo sRo) H := va_PL (cs := [wMn K hMn rMn0 (hRo 99) rMn3 rMn4 rMn5 rMn6 rMn7 rMn8 (hJo 99) rMn10 sMn, wJo K hJo rJo6 gJo4 gJo5 sJo, wRo K hRo sRo, wAJ K aO 1 fO]) (cc := [wMn K hMn rMn0 (hRo 99) rMn3 rMn4 rMn5 rMn6 rMn7 rMn8 (hJo 99) rMn10 sMn, wJo K hJo rJo6 gJo4 gJo5 sJo, wRo K hRo sRo]) hP (fl4 _ _ _ _) [0, 1, 2] rfl (fl3 _ _ _)
  refine vx_calli (vx_runV (As := [.int p1]) (rest := [.int 0, .ref aO]) ⟨hx, hb, hml, hown, hts⟩ (c_X10_led l hlf D K F sa hMn rMn0 rMn3 rMn4 rMn5 rMn6 rMn7 rMn8 rMn10 hJo rJo6 gJo4 gJo5 hRo sMn sJo sRo p1 res hf) (cwV 1 hts (gcV_X10_led (mB66 _ (List.mem_of_getElem? (i := 14) rfl))) rfl rfl rfl hdV_X10_led ⟨Nat.le_of_ble_eq_true rfl, Nat.le_of_ble_eq_true rfl⟩) ⟨bl_Xl, va_recv hK hP (ci := 9) (q0 := 0) rfl (rwl (rwl (rwl o_Mn))), fun U hU hW => ⟨rfl, ⟨by rw [hU]; exact hPc, va_K.moved hW.alike hK⟩, LDs_at hZ hS (fun _ h => nO_e h) hU hW⟩⟩ rfl rfl hl.1 rfl (Nat.le_of_ble_eq_true rfl) dL_led_4 ⟨Nat.le_of_ble_eq_true rfl, Nat.le_of_ble_eq_true rfl⟩) hS (fun q _ h => h.elim) (fun q h => h.elim) (fun q _ h => h.elim) (fun E ce q9 u t H1 locs1 ht hal hpx hBX hz hk hS hce hcv hcl => ?_) (fun r u t H1 locs1 ht hal hpo hB hz hk hS => ?_)
  · have hP : va_P D vwCl (wMn K hMn rMn0 (hRo 99) rMn3 rMn4 rMn5 rMn6 rMn7 rMn8 (hJo 99) rMn10 sMn ++ wJo K hJo rJo6 gJo4 gJo5 sJo ++ wRo K hRo sRo ++ wAJ K aO 1 fO) H1 := hP.kept (fun k q h => hk q.1 (hP k q h).lt (fun z => z))
    have hBX : E = NSE := hBX
    subst hBX
    refine vx_catch (own := RL) (name := NSE) hown [] ⟨0, 9, 12, 13⟩ [] htab (fun z hz9 => nomatch hz9) rfl (by decide) (htl _ (mB66 _ (List.mem_of_getElem? (i := 13) rfl))) (va_Nw.use rfl hZ.1.1) hce hcv hcl ?_
    refine lv_astore_n (lv' := [(3, .ref q9), (0, .ref (hMn 99)), (1, .int p1), (2, .ref aO)]) hx hb dL_led_12 rfl hl (by decide) rfl (fun ls hl => ?_)
    refine lv_iconst (v := (1 : Int32)) hx hb dL_led_13 (by decide) ?_
    rw [hQ]
    refine W.widen (k := 1) (n := 6) (Nat.le_of_ble_eq_true rfl) (Nat.le_of_ble_eq_true rfl) ?_
    exact W.iret (v := 1) hx hb hr (fun t ht hW => ⟨⟨1, fO, rfl, Or.inr ⟨hpx, rfl, rfl⟩, by rw [ht]; exact hP, va_K.moved hW.alike hK, hD⟩, hS.F ht⟩) hS.2.2 dL_led_14
  · obtain ⟨hr9, hne⟩ := hpo
    have hP : va_P D vwCl (wMn K hMn rMn0 (hRo 99) rMn3 rMn4 rMn5 rMn6 rMn7 rMn8 (hJo 99) rMn10 sMn ++ wJo K hJo rJo6 gJo4 gJo5 sJo ++ wRo K hRo sRo ++ wAJ K aO 1 fO) H1 := hP.kept (fun k q h => hk q.1 (hP k q h).lt (fun z => z))
    subst hr9
    refine lv_i2l (v := r.toInt64) hx hb dL_led_7 rfl ?_
    refine va_last hx hb hK hP hD hS ((1 + 4 + 10) + 0) 1 (f := fO) (rwr (lnA (lnA ln_Mn ln_Jo) ln_Ro) o_AJ) rfl (vpb_in (i := (0 : Int32)) (n := 1) (by decide)) dL_led_8 (fun H locs hP hD hS => ?_)
    have hP := cvP (str (lnA (lnA ln_Mn ln_Jo) ln_Ro) s_AJ) hP
    have hD := cvD (str (lnA (lnA ln_Mn ln_Jo) ln_Ro) s_AJ) hD
    refine lv_goto (tgt := 15) hx hb dL_led_9 (by decide) ?_
    refine lv_iconst (v := (0 : Int32)) hx hb dL_led_15 (by decide) ?_
    rw [hQ]
    refine W.widen (k := 1) (n := 6) (Nat.le_of_ble_eq_true rfl) (Nat.le_of_ble_eq_true rfl) ?_
    exact W.iret (v := 0) hx hb hr (fun t ht hW => ⟨⟨0, vp_updL fO 0 r.toInt64, rfl, Or.inl ⟨hne, rfl, rfl⟩, by rw [ht]; exact hP, va_K.moved hW.alike hK, hD⟩, hS.F ht⟩) hS.2.2 dL_led_16
