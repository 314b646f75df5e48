def wz_X11_bestMean : List Cond := .code yX11_bestMean cX11_bestMean 2 (some .long) :: wsL_law
abbrev r_X11_bestMean : Room := { frames := 9, cells := 0, slots := 0, locals := 224 }
set_option maxHeartbeats 4000000 in
set_option maxRecDepth 100000 in
theorem c_X11_bestMean (l : Launch) (D : va_G) (K : Nat → ClassId) (F : Nat) (hMo : Nat → Nat) (sz : Nat) (sMo : MS) (p1 : Int32) (res : Int64 × MS) (hf : f_X11_bestMean F p1 sMo = some res) : Met l yX11_bestMean wz_X11_bestMean r_X11_bestMean (va_Pc [.ref (hMo 99), .int p1] (PW D K (wMo K hMo sMo) sz)) (va_Ql (fun r u => r = res.1 ∧ u = res.2) (fun u t => BW D K (va_A (wMo K hMo sMo) sz) (wMo K hMo u) t) (va_A (wMo K hMo sMo) sz)) 0 0 (va_A (wMo K hMo sMo) sz) := by
  refine Met.ofW (cc := cX11_bestMean) (maxL := 2) (ret := (some .long)) (by decide) rfl ?_
  intro p e s m args below meth c s₁ B hml hv
  obtain ⟨hargs, hsz, hP, hK, hD0⟩ := hv
  have hx := B.exec
  have hb := B.bytes
  have hr := B.returns
  have hts := atoms_spec (ws := wz_X11_bestMean) B.pre
  have htl : ∀ w ∈ wsL_law, w.before args s = true := fun w h => hts w (List.mem_cons_of_mem _ h)
  have hown : s.vm.findClass RX11 = some m.cls := findClass_of_methodNamed B.named
  have hlocks := B.notSynchronized
  subst hsz
  have hD := hD0.self (sz := s.heap.size)
  generalize hAe : va_A (wMo K hMo sMo) s.heap.size = A at hD ⊢
  have hA : ∀ q : Nat, s.heap.size ≤ q → A q := fun q h => by rw [← hAe]; exact Or.inr h
  have hS : va_S A s.heap s.heap [] := va_S.rf
  have iX11 : ∀ w ∈ wsX110, w ∈ wz_X11_bestMean := fun w h => List.mem_cons_of_mem _ (inlX11 w h)
  suffices hgo : ∀ Q : State → Prop, Q = MQ below (va_Ql (fun r u => r = res.1 ∧ u = res.2) (fun u t => BW D K A (wMo K hMo u) t) A) args s 0 0 A → W p l e (headSpec wz_X11_bestMean r_X11_bestMean).room s m args below meth c s.heap [] 0 0 Q (entryFrame m args 2) from hgo _ rfl
  intro Q hQ
  have hen : entryFrame m args 2 = entryFrame m (([.ref (hMo 99), .int p1] : List Value).toArray) 2 := by rw [hargs]
  have hl := lv_entry ([.ref (hMo 99), .int p1]) (n := 2) (Nat.le_of_ble_eq_true rfl)
  rw [hen, lg_entry_eq]
  generalize (lg_sl ([.ref (hMo 99), .int p1]) ++ List.replicate (2 - (lg_sl ([.ref (hMo 99), .int p1])).length) Slot.unset).toArray = ls at hl ⊢
  have hl : lv_has ls 2 [(0, .ref (hMo 99)), (1, .int p1)] := hl
  unfold f_X11_bestMean at hf
  obtain ⟨H, hHe⟩ : ∃ z, z = s.heap := ⟨_, rfl⟩
  obtain ⟨locs, hLe⟩ : ∃ z : List Loc, z = [] := ⟨_, rfl⟩
  rw [← hLe]
  have hS : va_S A s.heap H locs := by rw [hHe, hLe]; exact hS
  have hP : va_P D vwCl (wMo K hMo sMo) H := by rw [hHe]; exact hP
  have hgo : W p l e (headSpec wz_X11_bestMean r_X11_bestMean).room s m args below meth c H locs 0 0 Q (F0 m 0 ls []) := by
    refine lv_aload_n hx hb dX11_bestMean_0 rfl (lv_at hl 0 rfl) ?_
    obtain ⟨o1, go1, hf⟩ := bd_s hf
    refine rs_Vv (As := []) (rest := []) ⟨hx, hb, hml, hown, hts⟩ (c_X11_good l D K F hMo H.size sMo o1 go1) (cwV 0 hts (gcV_X11_good (mB18 _ (List.mem_of_getElem? (i := 7) rfl))) rfl rfl rfl hdV_X11_good ⟨Nat.le_of_ble_eq_true rfl, Nat.le_of_ble_eq_true rfl⟩) hK hP hD hS hA (va_recv hK hP (ci := 10) (q0 := 0) rfl o_Mo) rfl hl.1 rfl (Nat.le_of_ble_eq_true rfl) dX11_bestMean_1 ⟨Nat.zero_le _, Nat.zero_le _⟩ (fun H locs hP hD hS => ?_)
    have hP : va_P D vwCl (wMo K hMo o1) H := hP
    have hD : va_D A (wMo K hMo o1) := hD
    refine lv_aload_n hx hb dX11_bestMean_4 rfl (lv_at hl 0 rfl) ?_
    refine va_get (D := D) (ci := 10) (v := .int (o1.1 14)) (C := RX11) (T := TX11) (N := 41) hx hb hts iX11 hown hK hP 0 o_Mo rfl 14 (by decide) (htl _ (mB18 _ (List.mem_of_getElem? (i := 4) rfl))) (fun _ h9 => h9) rfl dX11_bestMean_5 ?_
    refine lv_if_eq (tgt := 20) hx hb dX11_bestMean_8 (by decide) (fun c2 => ?_) (fun c2 => ?_)
    · have hf := it_t hf c2
      refine lv_aload_n hx hb dX11_bestMean_20 rfl (lv_at hl 0 rfl) ?_
      refine lv_iconst (v := (1 : Int32)) hx hb dX11_bestMean_21 (by decide) ?_
      obtain ⟨o3, go3, hf⟩ := bd_s hf
      refine rs_Vi (As := [.int (1 : Int32)]) (rest := []) ⟨hx, hb, hml, hown, hts⟩ (c_X11_no l D K F hMo H.size o1 (1 : Int32) o3 go3) (cwV 1 hts (gcV_X11_no (mB18 _ (List.mem_of_getElem? (i := 15) rfl))) rfl rfl rfl hdV_X11_no ⟨Nat.le_of_ble_eq_true rfl, Nat.le_of_ble_eq_true rfl⟩) hK hP hD hS hA (va_recv hK hP (ci := 10) (q0 := 0) rfl o_Mo) rfl hl.1 rfl (Nat.le_of_ble_eq_true rfl) dX11_bestMean_22 ⟨Nat.zero_le _, Nat.zero_le _⟩ (fun H locs hP hD hS => ?_)
      have hP : va_P D vwCl (wMo K hMo o3.2) H := hP
      have hD : va_D A (wMo K hMo o3.2) := hD
      refine lv_i2l (v := o3.1.toInt64) hx hb dX11_bestMean_25 rfl ?_
      have e9 := Option.some.inj hf
      rw [hQ]
      exact W.lret (v := o3.1.toInt64) hx hb hr (fun t ht hW => ⟨⟨o3.1.toInt64, o3.2, rfl, ⟨pr1 e9, pr2 e9⟩, ⟨by rw [ht]; exact hP, va_K.moved hW.alike hK, hD⟩⟩, hS.F ht⟩) hS.2.2 dX11_bestMean_26
    · have hf := it_f hf c2
      refine lv_aload_n hx hb dX11_bestMean_11 rfl (lv_at hl 0 rfl) ?_
      refine lv_iconst (v := (4 : Int32)) hx hb dX11_bestMean_12 (by decide) ?_
      refine lv_iload_n hx hb dX11_bestMean_13 rfl (lv_at hl 1 rfl) ?_
      obtain ⟨o4, go4, hf⟩ := bd_s hf
      refine rs_Vl (As := [.int (4 : Int32), .int p1]) (rest := []) ⟨hx, hb, hml, hown, hts⟩ (c_X11_meanOf l D K F hMo H.size o1 (4 : Int32) p1 o4 go4) (cwV 2 hts (gcV_X11_meanOf (mB44 _ (List.mem_of_getElem? (i := 15) rfl))) rfl rfl rfl hdV_X11_meanOf ⟨Nat.le_of_ble_eq_true rfl, Nat.le_of_ble_eq_true rfl⟩) hK hP hD hS hA (va_recv hK hP (ci := 10) (q0 := 0) rfl o_Mo) rfl hl.1 rfl (Nat.le_of_ble_eq_true rfl) dX11_bestMean_14 ⟨Nat.zero_le _, Nat.zero_le _⟩ (fun H locs hP hD hS => ?_)
      have hP : va_P D vwCl (wMo K hMo o4.2) H := hP
      have hD : va_D A (wMo K hMo o4.2) := hD
      refine lv_goto (tgt := 26) hx hb dX11_bestMean_17 (by decide) ?_
      have e9 := Option.some.inj hf
      rw [hQ]
      exact W.lret (v := o4.1) hx hb hr (fun t ht hW => ⟨⟨o4.1, o4.2, rfl, ⟨pr1 e9, pr2 e9⟩, ⟨by rw [ht]; exact hP, va_K.moved hW.alike hK, hD⟩⟩, hS.F ht⟩) hS.2.2 dX11_bestMean_26
  rw [hHe] at hgo
  exact hgo

def wz_X11_buy : List Cond := .code yX11_buy cX11_buy 5 (some .int) :: wsL_law
abbrev r_X11_buy : Room := { frames := 8, cells := 0, slots := 0, locals := 202 }
set_option maxHeartbeats 4000000 in
set_option maxRecDepth 100000 in
theorem c_X11_buy (l : Launch) (D : va_G) (K : Nat → ClassId) (F : Nat) (hMo : Nat → Nat) (sz : Nat) (sMo : MS) (p1 : Int32) (p2 : Int32) (p3 : Int32) (res : Int32 × MS) (hf : f_X11_buy F p1 p2 p3 sMo = some res) : Met l yX11_buy wz_X11_buy r_X11_buy (va_Pc [.ref (hMo 99), .int p1, .int p2, .int p3] (PW D K (wMo K hMo sMo) sz)) (va_Qi (fun r u => r = res.1 ∧ u = res.2) (fun u t => BW D K (va_A (wMo K hMo sMo) sz) (wMo K hMo u) t) (va_A (wMo K hMo sMo) sz)) 0 0 (va_A (wMo K hMo sMo) sz) := by
  refine Met.ofW (cc := cX11_buy) (maxL := 5) (ret := (some .int)) (by decide) rfl ?_
  intro p e s m args below meth c s₁ B hml hv
  obtain ⟨hargs, hsz, hP, hK, hD0⟩ := hv
  have hx := B.exec
  have hb := B.bytes
  have hr := B.returns
  have hts := atoms_spec (ws := wz_X11_buy) B.pre
  have htl : ∀ w ∈ wsL_law, w.before args s = true := fun w h => hts w (List.mem_cons_of_mem _ h)
  have hown : s.vm.findClass RX11 = some m.cls := findClass_of_methodNamed B.named
  have hlocks := B.notSynchronized
  subst hsz
  have hD := hD0.self (sz := s.heap.size)
  generalize hAe : va_A (wMo K hMo sMo) s.heap.size = A at hD ⊢
  have hA : ∀ q : Nat, s.heap.size ≤ q → A q := fun q h => by rw [← hAe]; exact Or.inr h
  have hS : va_S A s.heap s.heap [] := va_S.rf
  suffices hgo : ∀ Q : State → Prop, Q = MQ below (va_Qi (fun r u => r = res.1 ∧ u = res.2) (fun u t => BW D K A (wMo K hMo u) t) A) args s 0 0 A → W p l e (headSpec wz_X11_buy r_X11_buy).room s m args below meth c s.heap [] 0 0 Q (entryFrame m args 5) from hgo _ rfl
  intro Q hQ
  have w49 : ∀ (y1 : Int32), ∀ (y2 : Int32), ∀ (y3 : Int32), ∀ (y5 : Int32), ∀ (y6 : Int32), ∀ (sMo : MS), ∀ (H : Heap) (locs : List Loc) (ls : Array Slot), f_X11_buy_49 F p1 p2 p3 y1 y2 y3 y5 y6 sMo = some res → va_P D vwCl (wMo K hMo sMo) H → va_D A (wMo K hMo sMo) → va_S A s.heap H locs → lv_has ls 5 [] → W p l e (headSpec wz_X11_buy r_X11_buy).room s m args below meth c H locs 0 0 Q (F0 m 49 ls [.int y6, .int y5, .ref (hMo 99), .int y3, .int y2, .int y1, .ref (hMo 99)]) := by
    intro y1 y2 y3 y5 y6 sMo H locs ls hf hP hD hS hl
    unfold f_X11_buy_49 at hf
    obtain ⟨o8, go8, hf⟩ := bd_s hf
    refine ro_Vi (As := [.int y5, .int y6]) (rest := [.int y3, .int y2, .int y1, .ref (hMo 99)]) ⟨hx, hb, hml, hown, hts⟩ (c_X11_pumpOf l D K F hMo sMo y5 y6 o8 go8) (cwV 2 hts (gcV_X11_pumpOf (mB23 _ (List.mem_of_getElem? (i := 9) rfl))) rfl rfl rfl hdV_X11_pumpOf ⟨Nat.le_of_ble_eq_true rfl, Nat.le_of_ble_eq_true rfl⟩) hK hP hS hP (va_recv hK hP (ci := 10) (q0 := 0) rfl o_Mo) rfl hl.1 rfl (Nat.le_of_ble_eq_true rfl) dX11_buy_49 ⟨Nat.zero_le _, Nat.zero_le _⟩ (fun H locs hP hS => ?_)
    obtain ⟨o9, go9, hf⟩ := bd_s hf
    refine ro_Vi (As := [.int y1, .int y2, .int y3, .int o8]) (rest := []) ⟨hx, hb, hml, hown, hts⟩ (c_X11_bestBuy l D K F hMo sMo y1 y2 y3 o8 o9 go9) (cwV 4 hts (gcV_X11_bestBuy (mB45 _ (List.mem_of_getElem? (i := 21) rfl))) rfl rfl rfl hdV_X11_bestBuy ⟨Nat.le_of_ble_eq_true rfl, Nat.le_of_ble_eq_true rfl⟩) hK hP hS hP (va_recv hK hP (ci := 10) (q0 := 0) rfl o_Mo) rfl hl.1 rfl (Nat.le_of_ble_eq_true rfl) dX11_buy_52 ⟨Nat.zero_le _, Nat.zero_le _⟩ (fun H locs hP hS => ?_)
    have e9 := Option.some.inj hf
    rw [hQ]
    exact W.iret (v := o9) hx hb hr (fun t ht hW => ⟨⟨o9, sMo, rfl, ⟨pr1 e9, pr2 e9⟩, ⟨by rw [ht]; exact hP, va_K.moved hW.alike hK, hD⟩⟩, hS.F ht⟩) hS.2.2 dX11_buy_55
  have hen : entryFrame m args 5 = entryFrame m (([.ref (hMo 99), .int p1, .int p2, .int p3] : List Value).toArray) 5 := by rw [hargs]
  have hl := lv_entry ([.ref (hMo 99), .int p1, .int p2, .int p3]) (n := 5) (Nat.le_of_ble_eq_true rfl)
  rw [hen, lg_entry_eq]
  generalize (lg_sl ([.ref (hMo 99), .int p1, .int p2, .int p3]) ++ List.replicate (5 - (lg_sl ([.ref (hMo 99), .int p1, .int p2, .int p3])).length) Slot.unset).toArray = ls at hl ⊢
  have hl : lv_has ls 5 [(0, .ref (hMo 99)), (1, .int p1), (2, .int p2), (3, .int p3)] := hl
  unfold f_X11_buy at hf
  obtain ⟨H, hHe⟩ : ∃ z, z = s.heap := ⟨_, rfl⟩
  obtain ⟨locs, hLe⟩ : ∃ z : List Loc, z = [] := ⟨_, rfl⟩
  rw [← hLe]
  have hS : va_S A s.heap H locs := by rw [hHe, hLe]; exact hS
  have hP : va_P D vwCl (wMo K hMo sMo) H := by rw [hHe]; exact hP
  have hgo : W p l e (headSpec wz_X11_buy r_X11_buy).room s m args below meth c H locs 0 0 Q (F0 m 0 ls []) := by
    refine lv_aload_n hx hb dX11_buy_0 rfl (lv_at hl 0 rfl) ?_
    obtain ⟨o1, go1, hf⟩ := bd_s hf
    refine rs_Vv (As := []) (rest := []) ⟨hx, hb, hml, hown, hts⟩ (c_X11_good l D K F hMo H.size sMo o1 go1) (cwV 0 hts (gcV_X11_good (mB18 _ (List.mem_of_getElem? (i := 7) rfl))) rfl rfl rfl hdV_X11_good ⟨Nat.le_of_ble_eq_true rfl, Nat.le_of_ble_eq_true rfl⟩) hK hP hD hS hA (va_recv hK hP (ci := 10) (q0 := 0) rfl o_Mo) rfl hl.1 rfl (Nat.le_of_ble_eq_true rfl) dX11_buy_1 ⟨Nat.zero_le _, Nat.zero_le _⟩ (fun H locs hP hD hS => ?_)
    have hP : va_P D vwCl (wMo K hMo o1) H := hP
    have hD : va_D A (wMo K hMo o1) := hD
    refine lv_aload_n hx hb dX11_buy_4 rfl (lv_at hl 0 rfl) ?_
    refine lv_iload_n hx hb dX11_buy_5 rfl (lv_at hl 1 rfl) ?_
    refine lv_iload_n hx hb dX11_buy_6 rfl (lv_at hl 2 rfl) ?_
    refine lv_iload_n hx hb dX11_buy_7 rfl (lv_at hl 3 rfl) ?_
    obtain ⟨o2, go2, hf⟩ := bd_s hf
    refine ro_Vi (As := [.int p1, .int p2, .int p3]) (rest := []) ⟨hx, hb, hml, hown, hts⟩ (c_X11_pumpWhy l D K F hMo o1 p1 p2 p3 o2 go2) (cwV 3 hts (gcV_X11_pumpWhy (mB40 _ (List.mem_of_getElem? (i := 12) rfl))) rfl rfl rfl hdV_X11_pumpWhy ⟨Nat.le_of_ble_eq_true rfl, Nat.le_of_ble_eq_true rfl⟩) hK hP hS hP (va_recv hK hP (ci := 10) (q0 := 0) rfl o_Mo) rfl hl.1 rfl (Nat.le_of_ble_eq_true rfl) dX11_buy_8 ⟨Nat.zero_le _, Nat.zero_le _⟩ (fun H locs hP hS => ?_)
    refine lv_istore (lv' := [(4, .int o2), (0, .ref (hMo 99)), (1, .int p1), (2, .int p2), (3, .int p3)]) hx hb dX11_buy_11 hl (by decide) rfl (fun ls hl => ?_)
    refine lv_iload hx hb dX11_buy_13 (lv_at hl 0 rfl) ?_
    refine lv_if_eq (tgt := 25) hx hb dX11_buy_15 (by decide) (fun c3 => ?_) (fun c3 => ?_)
    · have hf := it_t hf c3
      refine lv_aload_n hx hb dX11_buy_25 rfl (lv_at hl 1 rfl) ?_
      refine lv_iconst (v := (4 : Int32)) hx hb dX11_buy_26 (by decide) ?_
      obtain ⟨o4, go4, hf⟩ := bd_s hf
      refine rs_Vv (As := [.int (4 : Int32)]) (rest := []) ⟨hx, hb, hml, hown, hts⟩ (c_X11_layMeans l D K F hMo H.size o1 (4 : Int32) o4 go4) (cwV 1 hts (gcV_X11_layMeans (mB44 _ (List.mem_of_getElem? (i := 19) rfl))) rfl rfl rfl hdV_X11_layMeans ⟨Nat.le_of_ble_eq_true rfl, Nat.le_of_ble_eq_true rfl⟩) hK hP hD hS hA (va_recv hK hP (ci := 10) (q0 := 0) rfl o_Mo) rfl hl.1 rfl (Nat.le_of_ble_eq_true rfl) dX11_buy_27 ⟨Nat.zero_le _, Nat.zero_le _⟩ (fun H locs hP hD hS => ?_)
      have hP : va_P D vwCl (wMo K hMo o4) H := hP
      have hD : va_D A (wMo K hMo o4) := hD
      refine lv_aload_n hx hb dX11_buy_30 rfl (lv_at hl 1 rfl) ?_
      refine lv_iconst (v := (4 : Int32)) hx hb dX11_buy_31 (by decide) ?_
      refine lv_iload_n hx hb dX11_buy_32 rfl (lv_at hl 2 rfl) ?_
      refine lv_iload_n hx hb dX11_buy_33 rfl (lv_at hl 3 rfl) ?_
      refine lv_aload_n hx hb dX11_buy_34 rfl (lv_at hl 1 rfl) ?_
      refine lv_aload_n hx hb dX11_buy_35 rfl (lv_at hl 1 rfl) ?_
      refine lv_iload_n hx hb dX11_buy_36 rfl (lv_at hl 2 rfl) ?_
      obtain ⟨o5, go5, hf⟩ := bd_s hf
      refine ro_Vi (As := [.int p1]) (rest := [.ref (hMo 99), .int p2, .int p1, .int (4 : Int32), .ref (hMo 99)]) ⟨hx, hb, hml, hown, hts⟩ (c_X11_placeOf l D K F hMo o4 p1 o5 go5) (cwV 1 hts (gcV_X11_placeOf (mB26 _ (List.mem_of_getElem? (i := 19) rfl))) rfl rfl rfl hdV_X11_placeOf ⟨Nat.le_of_ble_eq_true rfl, Nat.le_of_ble_eq_true rfl⟩) hK hP hS hP (va_recv hK hP (ci := 10) (q0 := 0) rfl o_Mo) rfl hl.1 rfl (Nat.le_of_ble_eq_true rfl) dX11_buy_37 ⟨Nat.zero_le _, Nat.zero_le _⟩ (fun H locs hP hS => ?_)
      refine lv_iload_n hx hb dX11_buy_40 rfl (lv_at hl 4 rfl) ?_
      refine lv_if_eq (tgt := 48) hx hb dX11_buy_41 (by decide) (fun c6 => ?_) (fun c6 => ?_)
      · have hf := it_t hf c6
        refine lv_iconst (v := (0 : Int32)) hx hb dX11_buy_48 (by decide) ?_
        exact w49 (4 : Int32) p1 p2 o5 (0 : Int32) o4 H locs ls hf hP hD hS (lv_sub hl [] rfl)
      · have hf := it_f hf c6
        refine lv_iconst (v := (1 : Int32)) hx hb dX11_buy_44 (by decide) ?_
        refine lv_goto (tgt := 49) hx hb dX11_buy_45 (by decide) ?_
        exact w49 (4 : Int32) p1 p2 o5 (1 : Int32) o4 H locs ls hf hP hD hS (lv_sub hl [] rfl)
    · have hf := it_f hf c3
      refine lv_aload_n hx hb dX11_buy_18 rfl (lv_at hl 1 rfl) ?_
      refine lv_iload hx hb dX11_buy_19 (lv_at hl 0 rfl) ?_
      obtain ⟨o7, go7, hf⟩ := bd_s hf
      refine rs_Vi (As := [.int o2]) (rest := []) ⟨hx, hb, hml, hown, hts⟩ (c_X11_no l D K F hMo H.size o1 o2 o7 go7) (cwV 1 hts (gcV_X11_no (mB18 _ (List.mem_of_getElem? (i := 15) rfl))) rfl rfl rfl hdV_X11_no ⟨Nat.le_of_ble_eq_true rfl, Nat.le_of_ble_eq_true rfl⟩) hK hP hD hS hA (va_recv hK hP (ci := 10) (q0 := 0) rfl o_Mo) rfl hl.1 rfl (Nat.le_of_ble_eq_true rfl) dX11_buy_21 ⟨Nat.zero_le _, Nat.zero_le _⟩ (fun H locs hP hD hS => ?_)
      have hP : va_P D vwCl (wMo K hMo o7.2) H := hP
      have hD : va_D A (wMo K hMo o7.2) := hD
      have e9 := Option.some.inj hf
      rw [hQ]
      exact W.iret (v := o7.1) hx hb hr (fun t ht hW => ⟨⟨o7.1, o7.2, rfl, ⟨pr1 e9, pr2 e9⟩, ⟨by rw [ht]; exact hP, va_K.moved hW.alike hK, hD⟩⟩, hS.F ht⟩) hS.2.2 dX11_buy_24
  rw [hHe] at hgo
  exact hgo

def wz_X11_sure : List Cond := .code yX11_sure cX11_sure 2 (some .long) :: wsL_law
abbrev r_X11_sure : Room := { frames := 9, cells := 0, slots := 0, locals := 224 }
set_option maxHeartbeats 4000000 in
set_option maxRecDepth 100000 in
theorem c_X11_sure (l : Launch) (D : va_G) (K : Nat → ClassId) (F : Nat) (hMo : Nat → Nat) (sz : Nat) (sMo : MS) (p1 : Int32) (res : Int64 × MS) (hf : f_X11_sure F p1 sMo = some res) : Met l yX11_sure wz_X11_sure r_X11_sure (va_Pc [.ref (hMo 99), .int p1] (PW D K (wMo K hMo sMo) sz)) (va_Ql (fun r u => r = res.1 ∧ u = res.2) (fun u t => BW D K (va_A (wMo K hMo sMo) sz) (wMo K hMo u) t) (va_A (wMo K hMo sMo) sz)) 0 0 (va_A (wMo K hMo sMo) sz) := by
  refine Met.ofW (cc := cX11_sure) (maxL := 2) (ret := (some .long)) (by decide) rfl ?_
  intro p e s m args below meth c s₁ B hml hv
  obtain ⟨hargs, hsz, hP, hK, hD0⟩ := hv
  have hx := B.exec
  have hb := B.bytes
  have hr := B.returns
  have hts := atoms_spec (ws := wz_X11_sure) B.pre
  have htl : ∀ w ∈ wsL_law, w.before args s = true := fun w h => hts w (List.mem_cons_of_mem _ h)
  have hown : s.vm.findClass RX11 = some m.cls := findClass_of_methodNamed B.named
  have hlocks := B.notSynchronized
  subst hsz
  have hD := hD0.self (sz := s.heap.size)
  generalize hAe : va_A (wMo K hMo sMo) s.heap.size = A at hD ⊢
  have hA : ∀ q : Nat, s.heap.size ≤ q → A q := fun q h => by rw [← hAe]; exact Or.inr h
  have hS : va_S A s.heap s.heap [] := va_S.rf
  have iX11 : ∀ w ∈ wsX110, w ∈ wz_X11_sure := fun w h => List.mem_cons_of_mem _ (inlX11 w h)
  suffices hgo : ∀ Q : State → Prop, Q = MQ below (va_Ql (fun r u => r = res.1 ∧ u = res.2) (fun u t => BW D K A (wMo K hMo u) t) A) args s 0 0 A → W p l e (headSpec wz_X11_sure r_X11_sure).room s m args below meth c s.heap [] 0 0 Q (entryFrame m args 2) from hgo _ rfl
  intro Q hQ
  have hen : entryFrame m args 2 = entryFrame m (([.ref (hMo 99), .int p1] : List Value).toArray) 2 := by rw [hargs]
  have hl := lv_entry ([.ref (hMo 99), .int p1]) (n := 2) (Nat.le_of_ble_eq_true rfl)
  rw [hen, lg_entry_eq]
  generalize (lg_sl ([.ref (hMo 99), .int p1]) ++ List.replicate (2 - (lg_sl ([.ref (hMo 99), .int p1])).length) Slot.unset).toArray = ls at hl ⊢
  have hl : lv_has ls 2 [(0, .ref (hMo 99)), (1, .int p1)] := hl
  unfold f_X11_sure at hf
  obtain ⟨H, hHe⟩ : ∃ z, z = s.heap := ⟨_, rfl⟩
  obtain ⟨locs, hLe⟩ : ∃ z : List Loc, z = [] := ⟨_, rfl⟩
  rw [← hLe]
  have hS : va_S A s.heap H locs := by rw [hHe, hLe]; exact hS
  have hP : va_P D vwCl (wMo K hMo sMo) H := by rw [hHe]; exact hP
  have hgo : W p l e (headSpec wz_X11_sure r_X11_sure).room s m args below meth c H locs 0 0 Q (F0 m 0 ls []) := by
    refine lv_aload_n hx hb dX11_sure_0 rfl (lv_at hl 0 rfl) ?_
    obtain ⟨o1, go1, hf⟩ := bd_s hf
    refine rs_Vv (As := []) (rest := []) ⟨hx, hb, hml, hown, hts⟩ (c_X11_good l D K F hMo H.size sMo o1 go1) (cwV 0 hts (gcV_X11_good (mB18 _ (List.mem_of_getElem? (i := 7) rfl))) rfl rfl rfl hdV_X11_good ⟨Nat.le_of_ble_eq_true rfl, Nat.le_of_ble_eq_true rfl⟩) hK hP hD hS hA (va_recv hK hP (ci := 10) (q0 := 0) rfl o_Mo) rfl hl.1 rfl (Nat.le_of_ble_eq_true rfl) dX11_sure_1 ⟨Nat.zero_le _, Nat.zero_le _⟩ (fun H locs hP hD hS => ?_)
    have hP : va_P D vwCl (wMo K hMo o1) H := hP
    have hD : va_D A (wMo K hMo o1) := hD
    refine lv_aload_n hx hb dX11_sure_4 rfl (lv_at hl 0 rfl) ?_
    refine va_get (D := D) (ci := 10) (v := .int (o1.1 14)) (C := RX11) (T := TX11) (N := 41) hx hb hts iX11 hown hK hP 0 o_Mo rfl 14 (by decide) (htl _ (mB18 _ (List.mem_of_getElem? (i := 4) rfl))) (fun _ h9 => h9) rfl dX11_sure_5 ?_
    refine lv_if_eq (tgt := 20) hx hb dX11_sure_8 (by decide) (fun c2 => ?_) (fun c2 => ?_)
    · have hf := it_t hf c2
      refine lv_aload_n hx hb dX11_sure_20 rfl (lv_at hl 0 rfl) ?_
      refine lv_iconst (v := (1 : Int32)) hx hb dX11_sure_21 (by decide) ?_
      obtain ⟨o3, go3, hf⟩ := bd_s hf
      refine rs_Vi (As := [.int (1 : Int32)]) (rest := []) ⟨hx, hb, hml, hown, hts⟩ (c_X11_no l D K F hMo H.size o1 (1 : Int32) o3 go3) (cwV 1 hts (gcV_X11_no (mB18 _ (List.mem_of_getElem? (i := 15) rfl))) rfl rfl rfl hdV_X11_no ⟨Nat.le_of_ble_eq_true rfl, Nat.le_of_ble_eq_true rfl⟩) hK hP hD hS hA (va_recv hK hP (ci := 10) (q0 := 0) rfl o_Mo) rfl hl.1 rfl (Nat.le_of_ble_eq_true rfl) dX11_sure_22 ⟨Nat.zero_le _, Nat.zero_le _⟩ (fun H locs hP hD hS => ?_)
      have hP : va_P D vwCl (wMo K hMo o3.2) H := hP
      have hD : va_D A (wMo K hMo o3.2) := hD
      refine lv_i2l (v := o3.1.toInt64) hx hb dX11_sure_25 rfl ?_
      have e9 := Option.some.inj hf
      rw [hQ]
      exact W.lret (v := o3.1.toInt64) hx hb hr (fun t ht hW => ⟨⟨o3.1.toInt64, o3.2, rfl, ⟨pr1 e9, pr2 e9⟩, ⟨by rw [ht]; exact hP, va_K.moved hW.alike hK, hD⟩⟩, hS.F ht⟩) hS.2.2 dX11_sure_26
    · have hf := it_f hf c2
      refine lv_aload_n hx hb dX11_sure_11 rfl (lv_at hl 0 rfl) ?_
      refine lv_iconst (v := (5 : Int32)) hx hb dX11_sure_12 (by decide) ?_
      refine lv_iload_n hx hb dX11_sure_13 rfl (lv_at hl 1 rfl) ?_
      obtain ⟨o4, go4, hf⟩ := bd_s hf
      refine rs_Vl (As := [.int (5 : Int32), .int p1]) (rest := []) ⟨hx, hb, hml, hown, hts⟩ (c_X11_meanOf l D K F hMo H.size o1 (5 : Int32) p1 o4 go4) (cwV 2 hts (gcV_X11_meanOf (mB44 _ (List.mem_of_getElem? (i := 15) rfl))) rfl rfl rfl hdV_X11_meanOf ⟨Nat.le_of_ble_eq_true rfl, Nat.le_of_ble_eq_true rfl⟩) hK hP hD hS hA (va_recv hK hP (ci := 10) (q0 := 0) rfl o_Mo) rfl hl.1 rfl (Nat.le_of_ble_eq_true rfl) dX11_sure_14 ⟨Nat.zero_le _, Nat.zero_le _⟩ (fun H locs hP hD hS => ?_)
      have hP : va_P D vwCl (wMo K hMo o4.2) H := hP
      have hD : va_D A (wMo K hMo o4.2) := hD
      refine lv_goto (tgt := 26) hx hb dX11_sure_17 (by decide) ?_
      have e9 := Option.some.inj hf
      rw [hQ]
      exact W.lret (v := o4.1) hx hb hr (fun t ht hW => ⟨⟨o4.1, o4.2, rfl, ⟨pr1 e9, pr2 e9⟩, ⟨by rw [ht]; exact hP, va_K.moved hW.alike hK, hD⟩⟩, hS.F ht⟩) hS.2.2 dX11_sure_26
  rw [hHe] at hgo
  exact hgo

def wz_X11_odds : List Cond := .code yX11_odds cX11_odds 3 (some .long) :: wsL_law
abbrev r_X11_odds : Room := { frames := 9, cells := 0, slots := 0, locals := 224 }
set_option maxHeartbeats 4000000 in
set_option maxRecDepth 100000 in
theorem c_X11_odds (l : Launch) (D : va_G) (K : Nat → ClassId) (F : Nat) (hMo : Nat → Nat) (sz : Nat) (sMo : MS) (p1 : Int32) (p2 : Int32) (res : Int64 × MS) (hf : f_X11_odds F p1 p2 sMo = some res) : Met l yX11_odds wz_X11_odds r_X11_odds (va_Pc [.ref (hMo 99), .int p1, .int p2] (PW D K (wMo K hMo sMo) sz)) (va_Ql (fun r u => r = res.1 ∧ u = res.2) (fun u t => BW D K (va_A (wMo K hMo sMo) sz) (wMo K hMo u) t) (va_A (wMo K hMo sMo) sz)) 0 0 (va_A (wMo K hMo sMo) sz) := by
  refine Met.ofW (cc := cX11_odds) (maxL := 3) (ret := (some .long)) (by decide) rfl ?_
  intro p e s m args below meth c s₁ B hml hv
  obtain ⟨hargs, hsz, hP, hK, hD0⟩ := hv
  have hx := B.exec
  have hb := B.bytes
  have hr := B.returns
  have hts := atoms_spec (ws := wz_X11_odds) B.pre
  have htl : ∀ w ∈ wsL_law, w.before args s = true := fun w h => hts w (List.mem_cons_of_mem _ h)
  have hown : s.vm.findClass RX11 = some m.cls := findClass_of_methodNamed B.named
  have hlocks := B.notSynchronized
  subst hsz
  have hD := hD0.self (sz := s.heap.size)
  generalize hAe : va_A (wMo K hMo sMo) s.heap.size = A at hD ⊢
  have hA : ∀ q : Nat, s.heap.size ≤ q → A q := fun q h => by rw [← hAe]; exact Or.inr h
  have hS : va_S A s.heap s.heap [] := va_S.rf
  suffices hgo : ∀ Q : State → Prop, Q = MQ below (va_Ql (fun r u => r = res.1 ∧ u = res.2) (fun u t => BW D K A (wMo K hMo u) t) A) args s 0 0 A → W p l e (headSpec wz_X11_odds r_X11_odds).room s m args below meth c s.heap [] 0 0 Q (entryFrame m args 3) from hgo _ rfl
  intro Q hQ
  have hen : entryFrame m args 3 = entryFrame m (([.ref (hMo 99), .int p1, .int p2] : List Value).toArray) 3 := by rw [hargs]
  have hl := lv_entry ([.ref (hMo 99), .int p1, .int p2]) (n := 3) (Nat.le_of_ble_eq_true rfl)
  rw [hen, lg_entry_eq]
  generalize (lg_sl ([.ref (hMo 99), .int p1, .int p2]) ++ List.replicate (3 - (lg_sl ([.ref (hMo 99), .int p1, .int p2])).length) Slot.unset).toArray = ls at hl ⊢
  have hl : lv_has ls 3 [(0, .ref (hMo 99)), (1, .int p1), (2, .int p2)] := hl
  unfold f_X11_odds at hf
  obtain ⟨H, hHe⟩ : ∃ z, z = s.heap := ⟨_, rfl⟩
  obtain ⟨locs, hLe⟩ : ∃ z : List Loc, z = [] := ⟨_, rfl⟩
  rw [← hLe]
  have hS : va_S A s.heap H locs := by rw [hHe, hLe]; exact hS
  have hP : va_P D vwCl (wMo K hMo sMo) H := by rw [hHe]; exact hP
  have hgo : W p l e (headSpec wz_X11_odds r_X11_odds).room s m args below meth c H locs 0 0 Q (F0 m 0 ls []) := by
    refine lv_aload_n hx hb dX11_odds_0 rfl (lv_at hl 0 rfl) ?_
    obtain ⟨o1, go1, hf⟩ := bd_s hf
    refine rs_Vv (As := []) (rest := []) ⟨hx, hb, hml, hown, hts⟩ (c_X11_good l D K F hMo H.size sMo o1 go1) (cwV 0 hts (gcV_X11_good (mB18 _ (List.mem_of_getElem? (i := 7) rfl))) rfl rfl rfl hdV_X11_good ⟨Nat.le_of_ble_eq_true rfl, Nat.le_of_ble_eq_true rfl⟩) hK hP hD hS hA (va_recv hK hP (ci := 10) (q0 := 0) rfl o_Mo) rfl hl.1 rfl (Nat.le_of_ble_eq_true rfl) dX11_odds_1 ⟨Nat.zero_le _, Nat.zero_le _⟩ (fun H locs hP hD hS => ?_)
    have hP : va_P D vwCl (wMo K hMo o1) H := hP
    have hD : va_D A (wMo K hMo o1) := hD
    refine lv_aload_n hx hb dX11_odds_4 rfl (lv_at hl 0 rfl) ?_
    refine lv_iload_n hx hb dX11_odds_5 rfl (lv_at hl 1 rfl) ?_
    obtain ⟨o2, go2, hf⟩ := bd_s hf
    refine ro_Vi (As := [.int p1]) (rest := []) ⟨hx, hb, hml, hown, hts⟩ (c_X11_isRule l D K F hMo o1 p1 o2 go2) (cwV 1 hts (gcV_X11_isRule (mB40 _ (List.mem_of_getElem? (i := 8) rfl))) rfl rfl rfl hdV_X11_isRule ⟨Nat.le_of_ble_eq_true rfl, Nat.le_of_ble_eq_true rfl⟩) hK hP hS hP (va_recv hK hP (ci := 10) (q0 := 0) rfl o_Mo) rfl hl.1 rfl (Nat.le_of_ble_eq_true rfl) dX11_odds_6 ⟨Nat.zero_le _, Nat.zero_le _⟩ (fun H locs hP hS => ?_)
    refine lv_if_eq (tgt := 24) hx hb dX11_odds_9 (by decide) (fun c3 => ?_) (fun c3 => ?_)
    · have hf := it_t hf c3
      refine lv_aload_n hx hb dX11_odds_24 rfl (lv_at hl 0 rfl) ?_
      refine lv_iconst (v := (1 : Int32)) hx hb dX11_odds_25 (by decide) ?_
      obtain ⟨o4, go4, hf⟩ := bd_s hf
      refine rs_Vi (As := [.int (1 : Int32)]) (rest := []) ⟨hx, hb, hml, hown, hts⟩ (c_X11_no l D K F hMo H.size o1 (1 : Int32) o4 go4) (cwV 1 hts (gcV_X11_no (mB18 _ (List.mem_of_getElem? (i := 15) rfl))) rfl rfl rfl hdV_X11_no ⟨Nat.le_of_ble_eq_true rfl, Nat.le_of_ble_eq_true rfl⟩) hK hP hD hS hA (va_recv hK hP (ci := 10) (q0 := 0) rfl o_Mo) rfl hl.1 rfl (Nat.le_of_ble_eq_true rfl) dX11_odds_26 ⟨Nat.zero_le _, Nat.zero_le _⟩ (fun H locs hP hD hS => ?_)
      have hP : va_P D vwCl (wMo K hMo o4.2) H := hP
      have hD : va_D A (wMo K hMo o4.2) := hD
      refine lv_i2l (v := o4.1.toInt64) hx hb dX11_odds_29 rfl ?_
      have e9 := Option.some.inj hf
      rw [hQ]
      exact W.lret (v := o4.1.toInt64) hx hb hr (fun t ht hW => ⟨⟨o4.1.toInt64, o4.2, rfl, ⟨pr1 e9, pr2 e9⟩, ⟨by rw [ht]; exact hP, va_K.moved hW.alike hK, hD⟩⟩, hS.F ht⟩) hS.2.2 dX11_odds_30
    · have hf := it_f hf c3
      refine lv_aload_n hx hb dX11_odds_12 rfl (lv_at hl 0 rfl) ?_
      refine lv_bipush (v := (6 : Int32)) hx hb dX11_odds_13 (by decide) ?_
      refine lv_iload_n hx hb dX11_odds_15 rfl (lv_at hl 1 rfl) ?_
      refine lv_iadd hx hb dX11_odds_16 ?_
      refine lv_iload_n hx hb dX11_odds_17 rfl (lv_at hl 2 rfl) ?_
      obtain ⟨o5, go5, hf⟩ := bd_s hf
      refine rs_Vl (As := [.int ((6 : Int32) + p1), .int p2]) (rest := []) ⟨hx, hb, hml, hown, hts⟩ (c_X11_meanOf l D K F hMo H.size o1 ((6 : Int32) + p1) p2 o5 go5) (cwV 2 hts (gcV_X11_meanOf (mB44 _ (List.mem_of_getElem? (i := 15) rfl))) rfl rfl rfl hdV_X11_meanOf ⟨Nat.le_of_ble_eq_true rfl, Nat.le_of_ble_eq_true rfl⟩) hK hP hD hS hA (va_recv hK hP (ci := 10) (q0 := 0) rfl o_Mo) rfl hl.1 rfl (Nat.le_of_ble_eq_true rfl) dX11_odds_18 ⟨Nat.zero_le _, Nat.zero_le _⟩ (fun H locs hP hD hS => ?_)
      have hP : va_P D vwCl (wMo K hMo o5.2) H := hP
      have hD : va_D A (wMo K hMo o5.2) := hD
      refine lv_goto (tgt := 30) hx hb dX11_odds_21 (by decide) ?_
      have e9 := Option.some.inj hf
      rw [hQ]
      exact W.lret (v := o5.1) hx hb hr (fun t ht hW => ⟨⟨o5.1, o5.2, rfl, ⟨pr1 e9, pr2 e9⟩, ⟨by rw [ht]; exact hP, va_K.moved hW.alike hK, hD⟩⟩, hS.F ht⟩) hS.2.2 dX11_odds_30
  rw [hHe] at hgo
  exact hgo

def wz_X11_less : List Cond := .code yX11_less cX11_less 3 (some .boolean) :: wsL_law
abbrev r_X11_less : Room := { frames := 0, cells := 0, slots := 0, locals := 0 }
set_option maxHeartbeats 4000000 in
set_option maxRecDepth 100000 in
theorem c_X11_less (l : Launch) (D : va_G) (K : Nat → ClassId) (F : Nat) (aq0 nq0 : Nat) (sz : Nat) (fq0 : (Nat → Int32)) (p1 : Int32) (p2 : Int32) (res : Int32 × (Nat → Int32)) (hf : f_X11_less F nq0 p1 p2 fq0 = some res) : Met l yX11_less wz_X11_less r_X11_less (va_Pc [.ref aq0, .int p1, .int p2] (PW D K (wAI K aq0 nq0 fq0) sz)) (va_Qi (fun r u => r = res.1 ∧ u = res.2) (fun u t => BW D K (va_A (wAI K aq0 nq0 fq0) sz) (wAI K aq0 nq0 u) t) (va_A (wAI K aq0 nq0 fq0) sz)) 0 0 (va_A (wAI K aq0 nq0 fq0) sz) := by
  refine Met.ofW (cc := cX11_less) (maxL := 3) (ret := (some .boolean)) (by decide) rfl ?_
  intro p e s m args below meth c s₁ B hml hv
  obtain ⟨hargs, hsz, hP, hK, hD0⟩ := hv
  have hx := B.exec
  have hb := B.bytes
  have hr := B.returns
  have hts := atoms_spec (ws := wz_X11_less) B.pre
  have htl : ∀ w ∈ wsL_law, w.before args s = true := fun w h => hts w (List.mem_cons_of_mem _ h)
  have hown : s.vm.findClass RX11 = some m.cls := findClass_of_methodNamed B.named
  have hlocks := B.notSynchronized
  subst hsz
  have hD := hD0.self (sz := s.heap.size)
  generalize hAe : va_A (wAI K aq0 nq0 fq0) s.heap.size = A at hD ⊢
  have hA : ∀ q : Nat, s.heap.size ≤ q → A q := fun q h => by rw [← hAe]; exact Or.inr h
  have hS : va_S A s.heap s.heap [] := va_S.rf
  suffices hgo : ∀ Q : State → Prop, Q = MQ below (va_Qi (fun r u => r = res.1 ∧ u = res.2) (fun u t => BW D K A (wAI K aq0 nq0 u) t) A) args s 0 0 A → W p l e (headSpec wz_X11_less r_X11_less).room s m args below meth c s.heap [] 0 0 Q (entryFrame m args 3) from hgo _ rfl
  intro Q hQ
  have hen : entryFrame m args 3 = entryFrame m (([.ref aq0, .int p1, .int p2] : List Value).toArray) 3 := by rw [hargs]
  have hl := lv_entry ([.ref aq0, .int p1, .int p2]) (n := 3) (Nat.le_of_ble_eq_true rfl)
  rw [hen, lg_entry_eq]
  generalize (lg_sl ([.ref aq0, .int p1, .int p2]) ++ List.replicate (3 - (lg_sl ([.ref aq0, .int p1, .int p2])).length) Slot.unset).toArray = ls at hl ⊢
  have hl : lv_has ls 3 [(0, .ref aq0), (1, .int p1), (2, .int p2)] := hl
  unfold f_X11_less at hf
  obtain ⟨H, hHe⟩ : ∃ z, z = s.heap := ⟨_, rfl⟩
  obtain ⟨locs, hLe⟩ : ∃ z : List Loc, z = [] := ⟨_, rfl⟩
  rw [← hLe]
  have hS : va_S A s.heap H locs := by rw [hHe, hLe]; exact hS
  have hP : va_P D vwCl (wAI K aq0 nq0 fq0) H := by rw [hHe]; exact hP
  have hgo : W p l e (headSpec wz_X11_less r_X11_less).room s m args below meth c H locs 0 0 Q (F0 m 0 ls []) := by
    refine lv_iload_n hx hb dX11_less_0 rfl (lv_at hl 2 rfl) ?_
    refine lv_aload_n hx hb dX11_less_1 rfl (lv_at hl 0 rfl) ?_
    refine lv_iload_n hx hb dX11_less_2 rfl (lv_at hl 1 rfl) ?_
    obtain ⟨g1, hf⟩ := gd_s hf
    refine va_iald hx hb hK hP 0 0 (f := fq0) o_AI rfl (vpb_in g1) dX11_less_3 ?_
    refine lv_icmp_lt (tgt := 9) hx hb dX11_less_4 (by decide) (fun c2 => ?_) (fun c2 => ?_)
    · have hf := it_t hf c2
      refine lv_aload_n hx hb dX11_less_9 rfl (lv_at hl 0 rfl) ?_
      refine lv_iload_n hx hb dX11_less_10 rfl (lv_at hl 1 rfl) ?_
      refine lv_iload_n hx hb dX11_less_11 rfl (lv_at hl 2 rfl) ?_
      obtain ⟨g3, hf⟩ := gd_s hf
      refine va_iast hx hb hK hP hD hS 0 0 (f := fq0) o_AI rfl (vpb_in g3) dX11_less_12 (fun H locs hP hD hS => ?_)
      have hP := cvP s_AI hP
      have hD := cvD s_AI hD
      obtain ⟨g4, eg4⟩ : ∃ z, z = upd fq0 p1.toNatClampNeg p2 := ⟨_, rfl⟩
      have hP : va_P D vwCl (wAI K aq0 nq0 g4) H := by rw [eg4]; exact hP
      have hD : va_D A (wAI K aq0 nq0 g4) := by rw [eg4]; exact hD
      have hf := lz_s hf g4 eg4
      refine lv_iconst (v := (1 : Int32)) hx hb dX11_less_13 (by decide) ?_
      have e9 := Option.some.inj hf
      rw [hQ]
      exact W.zret (v := (1 : Int32)) hx hb hr rfl (fun t ht hW => ⟨⟨(1 : Int32), g4, rfl, ⟨pr1 e9, pr2 e9⟩, ⟨by rw [ht]; exact hP, va_K.moved hW.alike hK, hD⟩⟩, hS.F ht⟩) hS.2.2 dX11_less_14
    · have hf := it_f hf c2
      refine lv_iconst (v := (0 : Int32)) hx hb dX11_less_7 (by decide) ?_
      have e9 := Option.some.inj hf
      rw [hQ]
      exact W.zret (v := (0 : Int32)) hx hb hr rfl (fun t ht hW => ⟨⟨(0 : Int32), fq0, rfl, ⟨pr1 e9, pr2 e9⟩, ⟨by rw [ht]; exact hP, va_K.moved hW.alike hK, hD⟩⟩, hS.F ht⟩) hS.2.2 dX11_less_8
  rw [hHe] at hgo
  exact hgo

theorem gcS_X11_less {T0 : Cond} {own : String} {i : Nat} (h : Cond.methodLink own i yX11_less ∈ wsL_law) : GoodIn (T0 :: wsL_law) (va_wsS own i yX11_less wz_X11_less) := gS h (mB50 _ (List.mem_of_getElem? (i := 16) rfl)) (mB1 _ (List.mem_of_getElem? (i := 5) rfl)) (mB50 _ (List.mem_of_getElem? (i := 17) rfl))
theorem hdS_X11_less : yX11_less.cls ≠ "java/lang/invoke/MethodHandle" ∧ yX11_less.cls ≠ "java/lang/invoke/VarHandle" ∧ (parseMethodDescriptor yX11_less.desc).map (fun d => d.parameters.length) = some 3 := by decide +kernel
def wz_X11_goes : List Cond := .code yX11_goes cX11_goes 8 (some .boolean) :: wsL_law
abbrev r_X11_goes : Room := { frames := 1, cells := 0, slots := 0, locals := 22 }
set_option maxHeartbeats 4000000 in
set_option maxRecDepth 100000 in
theorem c_X11_goes (l : Launch) (D : va_G) (K : Nat → ClassId) (F : Nat) (hMo : Nat → Nat) (sz : Nat) (sMo : MS) (p1 : Int32) (p2 : Int32) (p3 : Int32) (res : Int32 × MS) (hf : f_X11_goes F p1 p2 p3 sMo = some res) : Met l yX11_goes wz_X11_goes r_X11_goes (va_Pc [.ref (hMo 99), .int p1, .int p2, .int p3] (PW D K (wMo K hMo sMo) sz)) (va_Qi (fun r u => r = res.1 ∧ u = res.2) (fun u t => BW D K (va_A (wMo K hMo sMo) sz) (wMo K hMo u) t) (va_A (wMo K hMo sMo) sz)) 0 0 (va_A (wMo K hMo sMo) sz) := by
  refine Met.ofW (cc := cX11_goes) (maxL := 8) (ret := (some .boolean)) (by decide) rfl ?_
  intro p e s m args below meth c s₁ B hml hv
  obtain ⟨hargs, hsz, hP, hK, hD0⟩ := hv
  have hx := B.exec
  have hb := B.bytes
  have hr := B.returns
  have hts := atoms_spec (ws := wz_X11_goes) B.pre
  have htl : ∀ w ∈ wsL_law, w.before args s = true := fun w h => hts w (List.mem_cons_of_mem _ h)
  have hown : s.vm.findClass RX11 = some m.cls := findClass_of_methodNamed B.named
  have hlocks := B.notSynchronized
  subst hsz
  have hD := hD0.self (sz := s.heap.size)
  generalize hAe : va_A (wMo K hMo sMo) s.heap.size = A at hD ⊢
  have hA : ∀ q : Nat, s.heap.size ≤ q → A q := fun q h => by rw [← hAe]; exact Or.inr h
  have hS : va_S A s.heap s.heap [] := va_S.rf
  have iX11 : ∀ w ∈ wsX110, w ∈ wz_X11_goes := fun w h => List.mem_cons_of_mem _ (inlX11 w h)
  suffices hgo : ∀ Q : State → Prop, Q = MQ below (va_Qi (fun r u => r = res.1 ∧ u = res.2) (fun u t => BW D K A (wMo K hMo u) t) A) args s 0 0 A → W p l e (headSpec wz_X11_goes r_X11_goes).room s m args below meth c s.heap [] 0 0 Q (entryFrame m args 8) from hgo _ rfl
  intro Q hQ
  have w258 : ∀ (k155 : Int32 → Int32 → Int32 → MS → Option (Int32 × MS)), (∀ (x4 : Int32), ∀ (x6 : Int32), ∀ (x7 : Int32), ∀ (sMo : MS), ∀ (H : Heap) (locs : List Loc) (ls : Array Slot), k155 x4 x6 x7 sMo = some res → va_P D vwCl (wMo K hMo sMo) H → va_D A (wMo K hMo sMo) → va_S A s.heap H locs → lv_has ls 8 [(0, .ref (hMo 99)), (1, .int p1), (2, .int p2), (3, .int p3), (4, .int x4), (6, .int x6), (7, .int x7)] → W p l e (headSpec wz_X11_goes r_X11_goes).room s m args below meth c H locs 0 0 Q (F0 m 155 ls [])) → ∀ (x4 : Int32), ∀ (x6 : Int32), ∀ (x7 : Int32), ∀ (sMo : MS), ∀ (H : Heap) (locs : List Loc) (ls : Array Slot), f_X11_goes_258 F p1 p2 p3 k155 x4 x6 x7 sMo = some res → va_P D vwCl (wMo K hMo sMo) H → va_D A (wMo K hMo sMo) → va_S A s.heap H locs → lv_has ls 8 [(0, .ref (hMo 99)), (1, .int p1), (2, .int p2), (3, .int p3), (4, .int x4), (6, .int x6), (7, .int x7)] → W p l e (headSpec wz_X11_goes r_X11_goes).room s m args below meth c H locs 0 0 Q (F0 m 258 ls []) := by
    intro k155 hk155 x4 x6 x7 sMo H locs ls hf hP hD hS hl
    unfold f_X11_goes_258 at hf
    obtain ⟨v43, ev43⟩ : ∃ z : Int32, z = x7 + (1 : Int32) := ⟨_, rfl⟩
    have hf := lz_s hf v43 ev43
    refine lv_iinc (v := v43) (lv' := [(7, .int v43), (0, .ref (hMo 99)), (1, .int p1), (2, .int p2), (3, .int p3), (4, .int x4), (6, .int x6)]) hx hb dX11_goes_258 hl (k := 6) rfl (by rw [ev43]; rfl) (by decide) rfl (fun ls hl => ?_)
    refine lv_goto (tgt := 155) hx hb dX11_goes_261 (by decide) ?_
    exact hk155 x4 x6 v43 sMo H locs ls hf hP hD hS (lv_sub hl [1, 2, 3, 4, 5, 6, 0] rfl)
  have w256 : ∀ (k155 : Int32 → Int32 → Int32 → MS → Option (Int32 × MS)), (∀ (x4 : Int32), ∀ (x6 : Int32), ∀ (x7 : Int32), ∀ (sMo : MS), ∀ (H : Heap) (locs : List Loc) (ls : Array Slot), k155 x4 x6 x7 sMo = some res → va_P D vwCl (wMo K hMo sMo) H → va_D A (wMo K hMo sMo) → va_S A s.heap H locs → lv_has ls 8 [(0, .ref (hMo 99)), (1, .int p1), (2, .int p2), (3, .int p3), (4, .int x4), (6, .int x6), (7, .int x7)] → W p l e (headSpec wz_X11_goes r_X11_goes).room s m args below meth c H locs 0 0 Q (F0 m 155 ls [])) → ∀ (x6 : Int32), ∀ (x7 : Int32), ∀ (y0 : Int32), ∀ (sMo : MS), ∀ (H : Heap) (locs : List Loc) (ls : Array Slot), f_X11_goes_256 F p1 p2 p3 k155 x6 x7 y0 sMo = some res → va_P D vwCl (wMo K hMo sMo) H → va_D A (wMo K hMo sMo) → va_S A s.heap H locs → lv_has ls 8 [(0, .ref (hMo 99)), (1, .int p1), (2, .int p2), (3, .int p3), (6, .int x6), (7, .int x7)] → W p l e (headSpec wz_X11_goes r_X11_goes).room s m args below meth c H locs 0 0 Q (F0 m 256 ls [.int y0]) := by
    intro k155 hk155 x6 x7 y0 sMo H locs ls hf hP hD hS hl
    unfold f_X11_goes_256 at hf
    refine lv_istore (lv' := [(4, .int y0), (0, .ref (hMo 99)), (1, .int p1), (2, .int p2), (3, .int p3), (6, .int x6), (7, .int x7)]) hx hb dX11_goes_256 hl (by decide) rfl (fun ls hl => ?_)
    exact w258 k155 hk155 y0 x6 x7 sMo H locs ls hf hP hD hS (lv_sub hl [1, 2, 3, 4, 0, 5, 6] rfl)
  have w251 : ∀ (k155 : Int32 → Int32 → Int32 → MS → Option (Int32 × MS)), (∀ (x4 : Int32), ∀ (x6 : Int32), ∀ (x7 : Int32), ∀ (sMo : MS), ∀ (H : Heap) (locs : List Loc) (ls : Array Slot), k155 x4 x6 x7 sMo = some res → va_P D vwCl (wMo K hMo sMo) H → va_D A (wMo K hMo sMo) → va_S A s.heap H locs → lv_has ls 8 [(0, .ref (hMo 99)), (1, .int p1), (2, .int p2), (3, .int p3), (4, .int x4), (6, .int x6), (7, .int x7)] → W p l e (headSpec wz_X11_goes r_X11_goes).room s m args below meth c H locs 0 0 Q (F0 m 155 ls [])) → ∀ (x6 : Int32), ∀ (x7 : Int32), ∀ (sMo : MS), ∀ (H : Heap) (locs : List Loc) (ls : Array Slot), f_X11_goes_251 F p1 p2 p3 k155 x6 x7 sMo = some res → va_P D vwCl (wMo K hMo sMo) H → va_D A (wMo K hMo sMo) → va_S A s.heap H locs → lv_has ls 8 [(0, .ref (hMo 99)), (1, .int p1), (2, .int p2), (3, .int p3), (6, .int x6), (7, .int x7)] → W p l e (headSpec wz_X11_goes r_X11_goes).room s m args below meth c H locs 0 0 Q (F0 m 251 ls []) := by
    intro k155 hk155 x6 x7 sMo H locs ls hf hP hD hS hl
    unfold f_X11_goes_251 at hf
    refine lv_iconst (v := (1 : Int32)) hx hb dX11_goes_251 (by decide) ?_
    refine lv_goto (tgt := 256) hx hb dX11_goes_252 (by decide) ?_
    exact w256 k155 hk155 x6 x7 (1 : Int32) sMo H locs ls hf hP hD hS (lv_sub hl [0, 1, 2, 3, 4, 5] rfl)
  have w239 : ∀ (k155 : Int32 → Int32 → Int32 → MS → Option (Int32 × MS)), (∀ (x4 : Int32), ∀ (x6 : Int32), ∀ (x7 : Int32), ∀ (sMo : MS), ∀ (H : Heap) (locs : List Loc) (ls : Array Slot), k155 x4 x6 x7 sMo = some res → va_P D vwCl (wMo K hMo sMo) H → va_D A (wMo K hMo sMo) → va_S A s.heap H locs → lv_has ls 8 [(0, .ref (hMo 99)), (1, .int p1), (2, .int p2), (3, .int p3), (4, .int x4), (6, .int x6), (7, .int x7)] → W p l e (headSpec wz_X11_goes r_X11_goes).room s m args below meth c H locs 0 0 Q (F0 m 155 ls [])) → ∀ (x4 : Int32), ∀ (x6 : Int32), ∀ (x7 : Int32), ∀ (y1 : Int32), ∀ (y2 : Int32), ∀ (y3 : Int32), ∀ (sMo : MS), ∀ (H : Heap) (locs : List Loc) (ls : Array Slot), f_X11_goes_239 F p1 p2 p3 k155 x4 x6 x7 y1 y2 y3 sMo = some res → va_P D vwCl (wMo K hMo sMo) H → va_D A (wMo K hMo sMo) → va_S A s.heap H locs → lv_has ls 8 [(0, .ref (hMo 99)), (1, .int p1), (2, .int p2), (3, .int p3), (4, .int x4), (6, .int x6), (7, .int x7)] → W p l e (headSpec wz_X11_goes r_X11_goes).room s m args below meth c H locs 0 0 Q (F0 m 239 ls [.int y3, .int y2, .int y1, .ref (hMo 28)]) := by
    intro k155 hk155 x4 x6 x7 y1 y2 y3 sMo H locs ls hf hP hD hS hl
    unfold f_X11_goes_239 at hf
    refine lv_iadd hx hb dX11_goes_239 ?_
    obtain ⟨o39, go39, hf⟩ := bd_s hf
    refine rw_Si (wn := wMo K hMo (wA sMo 28 o39.2)) (As := [.ref (hMo 28), .int y1, .int (y2 + y3)]) (rest := []) ⟨hx, hb, hml, hown, hts⟩ (c_X11_less l D K F (hMo 28) 369 H.size (sMo.2.2.1 28) y1 (y2 + y3) o39 go39) (va_cwS 3 hts (gcS_X11_less (mB50 _ (List.mem_of_getElem? (i := 15) rfl))) rfl rfl rfl hdS_X11_less ⟨Nat.le_of_ble_eq_true rfl, Nat.le_of_ble_eq_true rfl⟩) hK hP hD hS hA [13] [0, 1, 2, 3, 4, 5, 6, 7, 8, 9, 10, 11, 12, 14, 15, 16, 17] [0, 1, 2, 3, 4, 5, 6, 7, 8, 9, 10, 11, 12, 17, 13, 14, 15, 16] rfl rfl (by decide +kernel) (by decide +kernel) (by decide +kernel) rfl (by decide +kernel) rfl hl.1 rfl (Nat.le_of_ble_eq_true rfl) dX11_goes_240 ⟨Nat.zero_le _, Nat.zero_le _⟩ (fun H locs hP hD hS => ?_)
    have hP : va_P D vwCl (wMo K hMo (wA sMo 28 o39.2)) H := hP
    have hD : va_D A (wMo K hMo (wA sMo 28 o39.2)) := hD
    obtain ⟨s40, es40⟩ : ∃ z, z = (wA sMo 28 o39.2) := ⟨_, rfl⟩
    have hP : va_P D vwCl (wMo K hMo s40) H := by rw [es40]; exact hP
    have hD : va_D A (wMo K hMo s40) := by rw [es40]; exact hD
    have hf := lz_s hf s40 es40
    refine lv_if_ne (tgt := 251) hx hb dX11_goes_243 (by decide) (fun c41 => ?_) (fun c41 => ?_)
    · have hf := it_f hf c41
      exact w251 k155 hk155 x6 x7 s40 H locs ls hf hP hD hS (lv_sub hl [0, 1, 2, 3, 5, 6] rfl)
    · have hf := it_t hf c41
      refine lv_iload hx hb dX11_goes_246 (lv_at hl 4 rfl) ?_
      refine lv_if_eq (tgt := 255) hx hb dX11_goes_248 (by decide) (fun c42 => ?_) (fun c42 => ?_)
      · have hf := it_t hf c42
        refine lv_iconst (v := (0 : Int32)) hx hb dX11_goes_255 (by decide) ?_
        exact w256 k155 hk155 x6 x7 (0 : Int32) s40 H locs ls hf hP hD hS (lv_sub hl [0, 1, 2, 3, 5, 6] rfl)
      · have hf := it_f hf c42
        exact w251 k155 hk155 x6 x7 s40 H locs ls hf hP hD hS (lv_sub hl [0, 1, 2, 3, 5, 6] rfl)
  have w155 : ∀ (n : Nat), ∀ (x4 : Int32), ∀ (x6 : Int32), ∀ (x7 : Int32), ∀ (sMo : MS), ∀ (H : Heap) (locs : List Loc) (ls : Array Slot), f_X11_goes_155 F p1 p2 p3 n x4 x6 x7 sMo = some res → va_P D vwCl (wMo K hMo sMo) H → va_D A (wMo K hMo sMo) → va_S A s.heap H locs → lv_has ls 8 [(0, .ref (hMo 99)), (1, .int p1), (2, .int p2), (3, .int p3), (4, .int x4), (6, .int x6), (7, .int x7)] → W p l e (headSpec wz_X11_goes r_X11_goes).room s m args below meth c H locs 0 0 Q (F0 m 155 ls []) := by
    intro n
    induction n with
    | zero =>
      intro x4 x6 x7 sMo H locs ls hf
      exact absurd (show none = some res from hf) (fun h => nomatch h)
    | succ n ih =>
      intro x4 x6 x7 sMo H locs ls hf hP hD hS hl
      rw [f_X11_goes_155] at hf
      refine lv_iload hx hb dX11_goes_155 (lv_at hl 6 rfl) ?_
      refine lv_aload_n hx hb dX11_goes_157 rfl (lv_at hl 0 rfl) ?_
      refine va_get (D := D) (ci := 10) (v := .ref (hMo 15)) (C := RX11) (T := TX11) (N := 41) hx hb hts iX11 hown hK hP 0 o_Mo rfl 15 (by decide) (htl _ (mB6 _ (List.mem_of_getElem? (i := 3) rfl))) (fun _ h9 => h9) rfl dX11_goes_158 ?_
      refine lv_iconst (v := (5 : Int32)) hx hb dX11_goes_161 (by decide) ?_
      obtain ⟨g25, hf⟩ := gd_s hf
      refine va_iald hx hb hK hP 3 0 (f := sMo.2.2.1 15) a_Mo_15 rfl (vpb_in g25) dX11_goes_162 ?_
      refine lv_topi (fun v26 ev26 => ?_)
      have hf := lz_s hf v26 ev26
      refine lv_icmp_ge (tgt := 264) hx hb dX11_goes_163 (by decide) (fun c27 => ?_) (fun c27 => ?_)
      · have hf := it_t hf c27
        refine lv_iload hx hb dX11_goes_264 (lv_at hl 4 rfl) ?_
        obtain ⟨g28, hf⟩ := gd_s hf
        have e9 := Option.some.inj hf
        rw [hQ]
        exact W.zret (v := x4) hx hb hr (bob_s g28) (fun t ht hW => ⟨⟨x4, sMo, rfl, ⟨pr1 e9, pr2 e9⟩, ⟨by rw [ht]; exact hP, va_K.moved hW.alike hK, hD⟩⟩, hS.F ht⟩) hS.2.2 dX11_goes_266
      · have hf := it_f hf c27
        refine lv_iload hx hb dX11_goes_166 (lv_at hl 5 rfl) ?_
        refine lv_ldcw (v := (1000000000 : Int32)) hx hb hown (htl _ (mB33 _ (List.mem_of_getElem? (i := 17) rfl))) dX11_goes_168 ?_
        refine lv_icmp_ge (tgt := 264) hx hb dX11_goes_171 (by decide) (fun c29 => ?_) (fun c29 => ?_)
        · have hf := it_t hf c29
          refine lv_iload hx hb dX11_goes_264 (lv_at hl 4 rfl) ?_
          obtain ⟨g30, hf⟩ := gd_s hf
          have e9 := Option.some.inj hf
          rw [hQ]
          exact W.zret (v := x4) hx hb hr (bob_s g30) (fun t ht hW => ⟨⟨x4, sMo, rfl, ⟨pr1 e9, pr2 e9⟩, ⟨by rw [ht]; exact hP, va_K.moved hW.alike hK, hD⟩⟩, hS.F ht⟩) hS.2.2 dX11_goes_266
        · have hf := it_f hf c29
          refine lv_aload_n hx hb dX11_goes_174 rfl (lv_at hl 0 rfl) ?_
          refine lv_iload_n hx hb dX11_goes_175 rfl (lv_at hl 1 rfl) ?_
          refine lv_iload hx hb dX11_goes_176 (lv_at hl 6 rfl) ?_
          obtain ⟨o31, go31, hf⟩ := bd_s hf
          refine ro_Vi (As := [.int p1, .int x7]) (rest := []) ⟨hx, hb, hml, hown, hts⟩ (c_X11_roadOf l D K F hMo sMo p1 x7 o31 go31) (cwV 2 hts (gcV_X11_roadOf (mB25 _ (List.mem_of_getElem? (i := 11) rfl))) rfl rfl rfl hdV_X11_roadOf ⟨Nat.le_of_ble_eq_true rfl, Nat.le_of_ble_eq_true rfl⟩) hK hP hS hP (va_recv hK hP (ci := 10) (q0 := 0) rfl o_Mo) rfl hl.1 rfl (Nat.le_of_ble_eq_true rfl) dX11_goes_178 ⟨Nat.zero_le _, Nat.zero_le _⟩ (fun H locs hP hS => ?_)
          refine lv_if_le (tgt := 258) hx hb dX11_goes_181 (by decide) (fun c32 => ?_) (fun c32 => ?_)
          · have hf := it_t hf c32
            exact w258 (f_X11_goes_155 F p1 p2 p3 n) ih x4 x6 x7 sMo H locs ls hf hP hD hS (lv_sub hl [0, 1, 2, 3, 4, 5, 6] rfl)
          · have hf := it_f hf c32
            refine lv_aload_n hx hb dX11_goes_184 rfl (lv_at hl 0 rfl) ?_
            refine lv_iload_n hx hb dX11_goes_185 rfl (lv_at hl 1 rfl) ?_
            refine lv_iload hx hb dX11_goes_186 (lv_at hl 6 rfl) ?_
            obtain ⟨o33, go33, hf⟩ := bd_s hf
            refine ro_Vi (As := [.int p1, .int x7]) (rest := []) ⟨hx, hb, hml, hown, hts⟩ (c_X11_roadOf l D K F hMo sMo p1 x7 o33 go33) (cwV 2 hts (gcV_X11_roadOf (mB25 _ (List.mem_of_getElem? (i := 11) rfl))) rfl rfl rfl hdV_X11_roadOf ⟨Nat.le_of_ble_eq_true rfl, Nat.le_of_ble_eq_true rfl⟩) hK hP hS hP (va_recv hK hP (ci := 10) (q0 := 0) rfl o_Mo) rfl hl.1 rfl (Nat.le_of_ble_eq_true rfl) dX11_goes_188 ⟨Nat.zero_le _, Nat.zero_le _⟩ (fun H locs hP hS => ?_)
            refine lv_iload_n hx hb dX11_goes_191 rfl (lv_at hl 2 rfl) ?_
            refine lv_icmp_gt (tgt := 258) hx hb dX11_goes_192 (by decide) (fun c34 => ?_) (fun c34 => ?_)
            · have hf := it_t hf c34
              exact w258 (f_X11_goes_155 F p1 p2 p3 n) ih x4 x6 x7 sMo H locs ls hf hP hD hS (lv_sub hl [0, 1, 2, 3, 4, 5, 6] rfl)
            · have hf := it_f hf c34
              refine lv_aload_n hx hb dX11_goes_195 rfl (lv_at hl 0 rfl) ?_
              refine va_get (D := D) (ci := 10) (v := .ref (hMo 28)) (C := RX11) (T := TX11) (N := 41) hx hb hts iX11 hown hK hP 0 o_Mo rfl 28 (by decide) (htl _ (mB6 _ (List.mem_of_getElem? (i := 13) rfl))) (fun _ h9 => h9) rfl dX11_goes_196 ?_
              refine lv_bipush (v := (41 : Int32)) hx hb dX11_goes_199 (by decide) ?_
              refine lv_iload hx hb dX11_goes_201 (lv_at hl 6 rfl) ?_
              refine lv_imul hx hb dX11_goes_203 ?_
              refine lv_iload_n hx hb dX11_goes_204 rfl (lv_at hl 2 rfl) ?_
              refine lv_iadd hx hb dX11_goes_205 ?_
              refine lv_aload_n hx hb dX11_goes_206 rfl (lv_at hl 0 rfl) ?_
              refine lv_iload_n hx hb dX11_goes_207 rfl (lv_at hl 1 rfl) ?_
              refine lv_iload hx hb dX11_goes_208 (lv_at hl 6 rfl) ?_
              obtain ⟨o35, go35, hf⟩ := bd_s hf
              refine ro_Vi (As := [.int p1, .int x7]) (rest := [.int (((41 : Int32) * x7) + p2), .ref (hMo 28)]) ⟨hx, hb, hml, hown, hts⟩ (c_X11_roadOf l D K F hMo sMo p1 x7 o35 go35) (cwV 2 hts (gcV_X11_roadOf (mB25 _ (List.mem_of_getElem? (i := 11) rfl))) rfl rfl rfl hdV_X11_roadOf ⟨Nat.le_of_ble_eq_true rfl, Nat.le_of_ble_eq_true rfl⟩) hK hP hS hP (va_recv hK hP (ci := 10) (q0 := 0) rfl o_Mo) rfl hl.1 rfl (Nat.le_of_ble_eq_true rfl) dX11_goes_210 ⟨Nat.zero_le _, Nat.zero_le _⟩ (fun H locs hP hS => ?_)
              refine lv_isub hx hb dX11_goes_213 ?_
              refine lv_iload hx hb dX11_goes_214 (lv_at hl 5 rfl) ?_
              refine lv_iload_n hx hb dX11_goes_216 rfl (lv_at hl 3 rfl) ?_
              refine lv_if_eq (tgt := 238) hx hb dX11_goes_217 (by decide) (fun c36 => ?_) (fun c36 => ?_)
              · have hf := it_t hf c36
                refine lv_iconst (v := (0 : Int32)) hx hb dX11_goes_238 (by decide) ?_
                exact w239 (f_X11_goes_155 F p1 p2 p3 n) ih x4 x6 x7 ((((41 : Int32) * x7) + p2) - o35) x6 (0 : Int32) sMo H locs ls hf hP hD hS (lv_sub hl [0, 1, 2, 3, 4, 5, 6] rfl)
              · have hf := it_f hf c36
                refine lv_aload_n hx hb dX11_goes_220 rfl (lv_at hl 0 rfl) ?_
                refine va_get (D := D) (ci := 10) (v := .ref (hMo 15)) (C := RX11) (T := TX11) (N := 41) hx hb hts iX11 hown hK hP 0 o_Mo rfl 15 (by decide) (htl _ (mB6 _ (List.mem_of_getElem? (i := 3) rfl))) (fun _ h9 => h9) rfl dX11_goes_221 ?_
                refine lv_bipush (v := (119 : Int32)) hx hb dX11_goes_224 (by decide) ?_
                refine lv_bipush (v := (9 : Int32)) hx hb dX11_goes_226 (by decide) ?_
                refine lv_iload_n hx hb dX11_goes_228 rfl (lv_at hl 1 rfl) ?_
                refine lv_imul hx hb dX11_goes_229 ?_
                refine lv_iadd hx hb dX11_goes_230 ?_
                refine lv_iload hx hb dX11_goes_231 (lv_at hl 6 rfl) ?_
                refine lv_iadd hx hb dX11_goes_233 ?_
                obtain ⟨g37, hf⟩ := gd_s hf
                refine va_iald hx hb hK hP 3 0 (f := sMo.2.2.1 15) a_Mo_15 rfl (vpb_in g37) dX11_goes_234 ?_
                refine lv_topi (fun v38 ev38 => ?_)
                have hf := lz_s hf v38 ev38
                refine lv_goto (tgt := 239) hx hb dX11_goes_235 (by decide) ?_
                exact w239 (f_X11_goes_155 F p1 p2 p3 n) ih x4 x6 x7 ((((41 : Int32) * x7) + p2) - o35) x6 v38 sMo H locs ls hf hP hD hS (lv_sub hl [0, 1, 2, 3, 4, 5, 6] rfl)
  have w150 : ∀ (x4 : Int32), ∀ (y0 : Int32), ∀ (sMo : MS), ∀ (H : Heap) (locs : List Loc) (ls : Array Slot), f_X11_goes_150 F p1 p2 p3 x4 y0 sMo = some res → va_P D vwCl (wMo K hMo sMo) H → va_D A (wMo K hMo sMo) → va_S A s.heap H locs → lv_has ls 8 [(0, .ref (hMo 99)), (1, .int p1), (2, .int p2), (3, .int p3), (4, .int x4)] → W p l e (headSpec wz_X11_goes r_X11_goes).room s m args below meth c H locs 0 0 Q (F0 m 150 ls [.int y0]) := by
    intro x4 y0 sMo H locs ls hf hP hD hS hl
    unfold f_X11_goes_150 at hf
    refine lv_istore (lv' := [(6, .int y0), (0, .ref (hMo 99)), (1, .int p1), (2, .int p2), (3, .int p3), (4, .int x4)]) hx hb dX11_goes_150 hl (by decide) rfl (fun ls hl => ?_)
    refine lv_iconst (v := (0 : Int32)) hx hb dX11_goes_152 (by decide) ?_
    refine lv_istore (lv' := [(7, .int (0 : Int32)), (6, .int y0), (0, .ref (hMo 99)), (1, .int p1), (2, .int p2), (3, .int p3), (4, .int x4)]) hx hb dX11_goes_153 hl (by decide) rfl (fun ls hl => ?_)
    exact w155 F x4 y0 (0 : Int32) sMo H locs ls hf hP hD hS (lv_sub hl [2, 3, 4, 5, 6, 1, 0] rfl)
  have w118 : ∀ (x4 : Int32), ∀ (x5 : Int32), ∀ (sMo : MS), ∀ (H : Heap) (locs : List Loc) (ls : Array Slot), f_X11_goes_118 F p1 p2 p3 x4 x5 sMo = some res → va_P D vwCl (wMo K hMo sMo) H → va_D A (wMo K hMo sMo) → va_S A s.heap H locs → lv_has ls 8 [(0, .ref (hMo 99)), (1, .int p1), (2, .int p2), (3, .int p3), (4, .int x4), (5, .int x5)] → W p l e (headSpec wz_X11_goes r_X11_goes).room s m args below meth c H locs 0 0 Q (F0 m 118 ls []) := by
    intro x4 x5 sMo H locs ls hf hP hD hS hl
    unfold f_X11_goes_118 at hf
    refine lv_iload hx hb dX11_goes_118 (lv_at hl 5 rfl) ?_
    refine lv_aload_n hx hb dX11_goes_120 rfl (lv_at hl 0 rfl) ?_
    refine va_get (D := D) (ci := 10) (v := .ref (hMo 29)) (C := RX11) (T := TX11) (N := 41) hx hb hts iX11 hown hK hP 0 o_Mo rfl 29 (by decide) (htl _ (mB6 _ (List.mem_of_getElem? (i := 14) rfl))) (fun _ h9 => h9) rfl dX11_goes_121 ?_
    refine lv_bipush (v := (41 : Int32)) hx hb dX11_goes_124 (by decide) ?_
    refine lv_iload_n hx hb dX11_goes_126 rfl (lv_at hl 1 rfl) ?_
    refine lv_imul hx hb dX11_goes_127 ?_
    refine lv_iload_n hx hb dX11_goes_128 rfl (lv_at hl 2 rfl) ?_
    refine lv_iadd hx hb dX11_goes_129 ?_
    obtain ⟨g20, hf⟩ := gd_s hf
    refine va_iald hx hb hK hP 14 0 (f := sMo.2.2.1 29) a_Mo_29 rfl (vpb_in g20) dX11_goes_130 ?_
    refine lv_topi (fun v21 ev21 => ?_)
    have hf := lz_s hf v21 ev21
    refine lv_icmp_ge (tgt := 139) hx hb dX11_goes_131 (by decide) (fun c22 => ?_) (fun c22 => ?_)
    · have hf := it_t hf c22
      refine lv_aload_n hx hb dX11_goes_139 rfl (lv_at hl 0 rfl) ?_
      refine va_get (D := D) (ci := 10) (v := .ref (hMo 29)) (C := RX11) (T := TX11) (N := 41) hx hb hts iX11 hown hK hP 0 o_Mo rfl 29 (by decide) (htl _ (mB6 _ (List.mem_of_getElem? (i := 14) rfl))) (fun _ h9 => h9) rfl dX11_goes_140 ?_
      refine lv_bipush (v := (41 : Int32)) hx hb dX11_goes_143 (by decide) ?_
      refine lv_iload_n hx hb dX11_goes_145 rfl (lv_at hl 1 rfl) ?_
      refine lv_imul hx hb dX11_goes_146 ?_
      refine lv_iload_n hx hb dX11_goes_147 rfl (lv_at hl 2 rfl) ?_
      refine lv_iadd hx hb dX11_goes_148 ?_
      obtain ⟨g23, hf⟩ := gd_s hf
      refine va_iald hx hb hK hP 14 0 (f := sMo.2.2.1 29) a_Mo_29 rfl (vpb_in g23) dX11_goes_149 ?_
      refine lv_topi (fun v24 ev24 => ?_)
      have hf := lz_s hf v24 ev24
      exact w150 x4 v24 sMo H locs ls hf hP hD hS (lv_sub hl [0, 1, 2, 3, 4] rfl)
    · have hf := it_f hf c22
      refine lv_iload hx hb dX11_goes_134 (lv_at hl 5 rfl) ?_
      refine lv_goto (tgt := 150) hx hb dX11_goes_136 (by decide) ?_
      exact w150 x4 x5 sMo H locs ls hf hP hD hS (lv_sub hl [0, 1, 2, 3, 4] rfl)
  have w110 : ∀ (k36 : Int32 → Int32 → Int32 → MS → Option (Int32 × MS)), (∀ (x4 : Int32), ∀ (x5 : Int32), ∀ (x6 : Int32), ∀ (sMo : MS), ∀ (H : Heap) (locs : List Loc) (ls : Array Slot), k36 x4 x5 x6 sMo = some res → va_P D vwCl (wMo K hMo sMo) H → va_D A (wMo K hMo sMo) → va_S A s.heap H locs → lv_has ls 8 [(0, .ref (hMo 99)), (1, .int p1), (2, .int p2), (3, .int p3), (4, .int x4), (5, .int x5), (6, .int x6)] → W p l e (headSpec wz_X11_goes r_X11_goes).room s m args below meth c H locs 0 0 Q (F0 m 36 ls [])) → ∀ (x5 : Int32), ∀ (x6 : Int32), ∀ (y0 : Int32), ∀ (sMo : MS), ∀ (H : Heap) (locs : List Loc) (ls : Array Slot), f_X11_goes_110 F p1 p2 p3 k36 x5 x6 y0 sMo = some res → va_P D vwCl (wMo K hMo sMo) H → va_D A (wMo K hMo sMo) → va_S A s.heap H locs → lv_has ls 8 [(0, .ref (hMo 99)), (1, .int p1), (2, .int p2), (3, .int p3), (5, .int x5), (6, .int x6)] → W p l e (headSpec wz_X11_goes r_X11_goes).room s m args below meth c H locs 0 0 Q (F0 m 110 ls [.int y0]) := by
    intro k36 hk36 x5 x6 y0 sMo H locs ls hf hP hD hS hl
    unfold f_X11_goes_110 at hf
    refine lv_istore (lv' := [(4, .int y0), (0, .ref (hMo 99)), (1, .int p1), (2, .int p2), (3, .int p3), (5, .int x5), (6, .int x6)]) hx hb dX11_goes_110 hl (by decide) rfl (fun ls hl => ?_)
    obtain ⟨v19, ev19⟩ : ∃ z : Int32, z = x6 + (1 : Int32) := ⟨_, rfl⟩
    have hf := lz_s hf v19 ev19
    refine lv_iinc (v := v19) (lv' := [(6, .int v19), (4, .int y0), (0, .ref (hMo 99)), (1, .int p1), (2, .int p2), (3, .int p3), (5, .int x5)]) hx hb dX11_goes_112 hl (k := 6) rfl (by rw [ev19]; rfl) (by decide) rfl (fun ls hl => ?_)
    refine lv_goto (tgt := 36) hx hb dX11_goes_115 (by decide) ?_
    exact hk36 y0 x5 v19 sMo H locs ls hf hP hD hS (lv_sub hl [2, 3, 4, 5, 1, 6, 0] rfl)
  have w105 : ∀ (k36 : Int32 → Int32 → Int32 → MS → Option (Int32 × MS)), (∀ (x4 : Int32), ∀ (x5 : Int32), ∀ (x6 : Int32), ∀ (sMo : MS), ∀ (H : Heap) (locs : List Loc) (ls : Array Slot), k36 x4 x5 x6 sMo = some res → va_P D vwCl (wMo K hMo sMo) H → va_D A (wMo K hMo sMo) → va_S A s.heap H locs → lv_has ls 8 [(0, .ref (hMo 99)), (1, .int p1), (2, .int p2), (3, .int p3), (4, .int x4), (5, .int x5), (6, .int x6)] → W p l e (headSpec wz_X11_goes r_X11_goes).room s m args below meth c H locs 0 0 Q (F0 m 36 ls [])) → ∀ (x5 : Int32), ∀ (x6 : Int32), ∀ (sMo : MS), ∀ (H : Heap) (locs : List Loc) (ls : Array Slot), f_X11_goes_105 F p1 p2 p3 k36 x5 x6 sMo = some res → va_P D vwCl (wMo K hMo sMo) H → va_D A (wMo K hMo sMo) → va_S A s.heap H locs → lv_has ls 8 [(0, .ref (hMo 99)), (1, .int p1), (2, .int p2), (3, .int p3), (5, .int x5), (6, .int x6)] → W p l e (headSpec wz_X11_goes r_X11_goes).room s m args below meth c H locs 0 0 Q (F0 m 105 ls []) := by
    intro k36 hk36 x5 x6 sMo H locs ls hf hP hD hS hl
    unfold f_X11_goes_105 at hf
    refine lv_iconst (v := (1 : Int32)) hx hb dX11_goes_105 (by decide) ?_
    refine lv_goto (tgt := 110) hx hb dX11_goes_106 (by decide) ?_
    exact w110 k36 hk36 x5 x6 (1 : Int32) sMo H locs ls hf hP hD hS (lv_sub hl [0, 1, 2, 3, 4, 5] rfl)
  have w93 : ∀ (k36 : Int32 → Int32 → Int32 → MS → Option (Int32 × MS)), (∀ (x4 : Int32), ∀ (x5 : Int32), ∀ (x6 : Int32), ∀ (sMo : MS), ∀ (H : Heap) (locs : List Loc) (ls : Array Slot), k36 x4 x5 x6 sMo = some res → va_P D vwCl (wMo K hMo sMo) H → va_D A (wMo K hMo sMo) → va_S A s.heap H locs → lv_has ls 8 [(0, .ref (hMo 99)), (1, .int p1), (2, .int p2), (3, .int p3), (4, .int x4), (5, .int x5), (6, .int x6)] → W p l e (headSpec wz_X11_goes r_X11_goes).room s m args below meth c H locs 0 0 Q (F0 m 36 ls [])) → ∀ (x4 : Int32), ∀ (x5 : Int32), ∀ (x6 : Int32), ∀ (y1 : Int32), ∀ (y2 : Int32), ∀ (y3 : Int32), ∀ (sMo : MS), ∀ (H : Heap) (locs : List Loc) (ls : Array Slot), f_X11_goes_93 F p1 p2 p3 k36 x4 x5 x6 y1 y2 y3 sMo = some res → va_P D vwCl (wMo K hMo sMo) H → va_D A (wMo K hMo sMo) → va_S A s.heap H locs → lv_has ls 8 [(0, .ref (hMo 99)), (1, .int p1), (2, .int p2), (3, .int p3), (4, .int x4), (5, .int x5), (6, .int x6)] → W p l e (headSpec wz_X11_goes r_X11_goes).room s m args below meth c H locs 0 0 Q (F0 m 93 ls [.int y3, .int y2, .int y1, .ref (hMo 29)]) := by
    intro k36 hk36 x4 x5 x6 y1 y2 y3 sMo H locs ls hf hP hD hS hl
    unfold f_X11_goes_93 at hf
    refine lv_iadd hx hb dX11_goes_93 ?_
    obtain ⟨o15, go15, hf⟩ := bd_s hf
    refine rw_Si (wn := wMo K hMo (wA sMo 29 o15.2)) (As := [.ref (hMo 29), .int y1, .int (y2 + y3)]) (rest := []) ⟨hx, hb, hml, hown, hts⟩ (c_X11_less l D K F (hMo 29) 369 H.size (sMo.2.2.1 29) y1 (y2 + y3) o15 go15) (va_cwS 3 hts (gcS_X11_less (mB50 _ (List.mem_of_getElem? (i := 15) rfl))) rfl rfl rfl hdS_X11_less ⟨Nat.le_of_ble_eq_true rfl, Nat.le_of_ble_eq_true rfl⟩) hK hP hD hS hA [14] [0, 1, 2, 3, 4, 5, 6, 7, 8, 9, 10, 11, 12, 13, 15, 16, 17] [0, 1, 2, 3, 4, 5, 6, 7, 8, 9, 10, 11, 12, 13, 17, 14, 15, 16] rfl rfl (by decide +kernel) (by decide +kernel) (by decide +kernel) rfl (by decide +kernel) rfl hl.1 rfl (Nat.le_of_ble_eq_true rfl) dX11_goes_94 ⟨Nat.zero_le _, Nat.zero_le _⟩ (fun H locs hP hD hS => ?_)
    have hP : va_P D vwCl (wMo K hMo (wA sMo 29 o15.2)) H := hP
    have hD : va_D A (wMo K hMo (wA sMo 29 o15.2)) := hD
    obtain ⟨s16, es16⟩ : ∃ z, z = (wA sMo 29 o15.2) := ⟨_, rfl⟩
    have hP : va_P D vwCl (wMo K hMo s16) H := by rw [es16]; exact hP
    have hD : va_D A (wMo K hMo s16) := by rw [es16]; exact hD
    have hf := lz_s hf s16 es16
    refine lv_if_ne (tgt := 105) hx hb dX11_goes_97 (by decide) (fun c17 => ?_) (fun c17 => ?_)
    · have hf := it_f hf c17
      exact w105 k36 hk36 x5 x6 s16 H locs ls hf hP hD hS (lv_sub hl [0, 1, 2, 3, 5, 6] rfl)
    · have hf := it_t hf c17
      refine lv_iload hx hb dX11_goes_100 (lv_at hl 4 rfl) ?_
      refine lv_if_eq (tgt := 109) hx hb dX11_goes_102 (by decide) (fun c18 => ?_) (fun c18 => ?_)
      · have hf := it_t hf c18
        refine lv_iconst (v := (0 : Int32)) hx hb dX11_goes_109 (by decide) ?_
        exact w110 k36 hk36 x5 x6 (0 : Int32) s16 H locs ls hf hP hD hS (lv_sub hl [0, 1, 2, 3, 5, 6] rfl)
      · have hf := it_f hf c18
        exact w105 k36 hk36 x5 x6 s16 H locs ls hf hP hD hS (lv_sub hl [0, 1, 2, 3, 5, 6] rfl)
  have w36 : ∀ (n : Nat), ∀ (x4 : Int32), ∀ (x5 : Int32), ∀ (x6 : Int32), ∀ (sMo : MS), ∀ (H : Heap) (locs : List Loc) (ls : Array Slot), f_X11_goes_36 F p1 p2 p3 n x4 x5 x6 sMo = some res → va_P D vwCl (wMo K hMo sMo) H → va_D A (wMo K hMo sMo) → va_S A s.heap H locs → lv_has ls 8 [(0, .ref (hMo 99)), (1, .int p1), (2, .int p2), (3, .int p3), (4, .int x4), (5, .int x5), (6, .int x6)] → W p l e (headSpec wz_X11_goes r_X11_goes).room s m args below meth c H locs 0 0 Q (F0 m 36 ls []) := by
    intro n
    induction n with
    | zero =>
      intro x4 x5 x6 sMo H locs ls hf
      exact absurd (show none = some res from hf) (fun h => nomatch h)
    | succ n ih =>
      intro x4 x5 x6 sMo H locs ls hf hP hD hS hl
      rw [f_X11_goes_36] at hf
      refine lv_iload_n hx hb dX11_goes_36 rfl (lv_at hl 2 rfl) ?_
      refine lv_iload hx hb dX11_goes_37 (lv_at hl 6 rfl) ?_
      refine lv_iadd hx hb dX11_goes_39 ?_
      refine lv_aload_n hx hb dX11_goes_40 rfl (lv_at hl 0 rfl) ?_
      refine va_get (D := D) (ci := 10) (v := .ref (hMo 15)) (C := RX11) (T := TX11) (N := 41) hx hb hts iX11 hown hK hP 0 o_Mo rfl 15 (by decide) (htl _ (mB6 _ (List.mem_of_getElem? (i := 3) rfl))) (fun _ h9 => h9) rfl dX11_goes_41 ?_
      refine lv_iconst (v := (0 : Int32)) hx hb dX11_goes_44 (by decide) ?_
      obtain ⟨g6, hf⟩ := gd_s hf
      refine va_iald hx hb hK hP 3 0 (f := sMo.2.2.1 15) a_Mo_15 rfl (vpb_in g6) dX11_goes_45 ?_
      refine lv_topi (fun v7 ev7 => ?_)
      have hf := lz_s hf v7 ev7
      refine lv_icmp_gt (tgt := 118) hx hb dX11_goes_46 (by decide) (fun c8 => ?_) (fun c8 => ?_)
      · have hf := it_t hf c8
        exact w118 x4 x5 sMo H locs ls hf hP hD hS (lv_sub hl [0, 1, 2, 3, 4, 5] rfl)
      · have hf := it_f hf c8
        refine lv_aload_n hx hb dX11_goes_49 rfl (lv_at hl 0 rfl) ?_
        refine va_get (D := D) (ci := 10) (v := .ref (hMo 29)) (C := RX11) (T := TX11) (N := 41) hx hb hts iX11 hown hK hP 0 o_Mo rfl 29 (by decide) (htl _ (mB6 _ (List.mem_of_getElem? (i := 14) rfl))) (fun _ h9 => h9) rfl dX11_goes_50 ?_
        refine lv_bipush (v := (41 : Int32)) hx hb dX11_goes_53 (by decide) ?_
        refine lv_iload_n hx hb dX11_goes_55 rfl (lv_at hl 1 rfl) ?_
        refine lv_imul hx hb dX11_goes_56 ?_
        refine lv_iload_n hx hb dX11_goes_57 rfl (lv_at hl 2 rfl) ?_
        refine lv_iadd hx hb dX11_goes_58 ?_
        refine lv_iload hx hb dX11_goes_59 (lv_at hl 6 rfl) ?_
        refine lv_iadd hx hb dX11_goes_61 ?_
        refine lv_iload hx hb dX11_goes_62 (lv_at hl 5 rfl) ?_
        refine lv_iload_n hx hb dX11_goes_64 rfl (lv_at hl 3 rfl) ?_
        refine lv_if_eq (tgt := 77) hx hb dX11_goes_65 (by decide) (fun c9 => ?_) (fun c9 => ?_)
        · have hf := it_t hf c9
          refine lv_iload hx hb dX11_goes_77 (lv_at hl 6 rfl) ?_
          refine lv_aload_n hx hb dX11_goes_79 rfl (lv_at hl 0 rfl) ?_
          refine lv_iload_n hx hb dX11_goes_80 rfl (lv_at hl 1 rfl) ?_
          refine lv_iconst (v := (0 : Int32)) hx hb dX11_goes_81 (by decide) ?_
          obtain ⟨o10, go10, hf⟩ := bd_s hf
          refine ro_Vi (As := [.int p1, .int (0 : Int32)]) (rest := [.int x6, .int x5, .int ((((41 : Int32) * p1) + p2) + x6), .ref (hMo 29)]) ⟨hx, hb, hml, hown, hts⟩ (c_X11_pumpOf l D K F hMo sMo p1 (0 : Int32) o10 go10) (cwV 2 hts (gcV_X11_pumpOf (mB23 _ (List.mem_of_getElem? (i := 9) rfl))) rfl rfl rfl hdV_X11_pumpOf ⟨Nat.le_of_ble_eq_true rfl, Nat.le_of_ble_eq_true rfl⟩) hK hP hS hP (va_recv hK hP (ci := 10) (q0 := 0) rfl o_Mo) rfl hl.1 rfl (Nat.le_of_ble_eq_true rfl) dX11_goes_82 ⟨Nat.zero_le _, Nat.zero_le _⟩ (fun H locs hP hS => ?_)
          refine lv_imul hx hb dX11_goes_85 ?_
          refine lv_aload_n hx hb dX11_goes_86 rfl (lv_at hl 0 rfl) ?_
          refine va_get (D := D) (ci := 10) (v := .ref (hMo 15)) (C := RX11) (T := TX11) (N := 41) hx hb hts iX11 hown hK hP 0 o_Mo rfl 15 (by decide) (htl _ (mB6 _ (List.mem_of_getElem? (i := 3) rfl))) (fun _ h9 => h9) rfl dX11_goes_87 ?_
          refine lv_iconst (v := (2 : Int32)) hx hb dX11_goes_90 (by decide) ?_
          obtain ⟨g11, hf⟩ := gd_s hf
          refine va_iald hx hb hK hP 3 0 (f := sMo.2.2.1 15) a_Mo_15 rfl (vpb_in g11) dX11_goes_91 ?_
          refine lv_topi (fun v12 ev12 => ?_)
          have hf := lz_s hf v12 ev12
          refine lv_iadd hx hb dX11_goes_92 ?_
          exact w93 (f_X11_goes_36 F p1 p2 p3 n) ih x4 x5 x6 ((((41 : Int32) * p1) + p2) + x6) x5 ((x6 * o10) + v12) sMo H locs ls hf hP hD hS (lv_sub hl [0, 1, 2, 3, 4, 5, 6] rfl)
        · have hf := it_f hf c9
          refine lv_aload_n hx hb dX11_goes_68 rfl (lv_at hl 0 rfl) ?_
          refine va_get (D := D) (ci := 10) (v := .ref (hMo 15)) (C := RX11) (T := TX11) (N := 41) hx hb hts iX11 hown hK hP 0 o_Mo rfl 15 (by decide) (htl _ (mB6 _ (List.mem_of_getElem? (i := 3) rfl))) (fun _ h9 => h9) rfl dX11_goes_69 ?_
          refine lv_iconst (v := (3 : Int32)) hx hb dX11_goes_72 (by decide) ?_
          obtain ⟨g13, hf⟩ := gd_s hf
          refine va_iald hx hb hK hP 3 0 (f := sMo.2.2.1 15) a_Mo_15 rfl (vpb_in g13) dX11_goes_73 ?_
          refine lv_topi (fun v14 ev14 => ?_)
          have hf := lz_s hf v14 ev14
          refine lv_goto (tgt := 93) hx hb dX11_goes_74 (by decide) ?_
          exact w93 (f_X11_goes_36 F p1 p2 p3 n) ih x4 x5 x6 ((((41 : Int32) * p1) + p2) + x6) x5 v14 sMo H locs ls hf hP hD hS (lv_sub hl [0, 1, 2, 3, 4, 5, 6] rfl)
  have hen : entryFrame m args 8 = entryFrame m (([.ref (hMo 99), .int p1, .int p2, .int p3] : List Value).toArray) 8 := by rw [hargs]
  have hl := lv_entry ([.ref (hMo 99), .int p1, .int p2, .int p3]) (n := 8) (Nat.le_of_ble_eq_true rfl)
  rw [hen, lg_entry_eq]
  generalize (lg_sl ([.ref (hMo 99), .int p1, .int p2, .int p3]) ++ List.replicate (8 - (lg_sl ([.ref (hMo 99), .int p1, .int p2, .int p3])).length) Slot.unset).toArray = ls at hl ⊢
  have hl : lv_has ls 8 [(0, .ref (hMo 99)), (1, .int p1), (2, .int p2), (3, .int p3)] := hl
  unfold f_X11_goes at hf
  obtain ⟨H, hHe⟩ : ∃ z, z = s.heap := ⟨_, rfl⟩
  obtain ⟨locs, hLe⟩ : ∃ z : List Loc, z = [] := ⟨_, rfl⟩
  rw [← hLe]
  have hS : va_S A s.heap H locs := by rw [hHe, hLe]; exact hS
  have hP : va_P D vwCl (wMo K hMo sMo) H := by rw [hHe]; exact hP
  have hgo : W p l e (headSpec wz_X11_goes r_X11_goes).room s m args below meth c H locs 0 0 Q (F0 m 0 ls []) := by
    refine lv_iconst (v := (0 : Int32)) hx hb dX11_goes_0 (by decide) ?_
    refine lv_istore (lv' := [(4, .int (0 : Int32)), (0, .ref (hMo 99)), (1, .int p1), (2, .int p2), (3, .int p3)]) hx hb dX11_goes_1 hl (by decide) rfl (fun ls hl => ?_)
    refine lv_aload_n hx hb dX11_goes_3 rfl (lv_at hl 1 rfl) ?_
    refine va_get (D := D) (ci := 10) (v := .ref (hMo 28)) (C := RX11) (T := TX11) (N := 41) hx hb hts iX11 hown hK hP 0 o_Mo rfl 28 (by decide) (htl _ (mB6 _ (List.mem_of_getElem? (i := 13) rfl))) (fun _ h9 => h9) rfl dX11_goes_4 ?_
    refine lv_bipush (v := (41 : Int32)) hx hb dX11_goes_7 (by decide) ?_
    refine lv_iload_n hx hb dX11_goes_9 rfl (lv_at hl 2 rfl) ?_
    refine lv_imul hx hb dX11_goes_10 ?_
    refine lv_iload_n hx hb dX11_goes_11 rfl (lv_at hl 3 rfl) ?_
    refine lv_iadd hx hb dX11_goes_12 ?_
    obtain ⟨g1, hf⟩ := gd_s hf
    refine va_iald hx hb hK hP 13 0 (f := sMo.2.2.1 28) a_Mo_28 rfl (vpb_in g1) dX11_goes_13 ?_
    refine lv_topi (fun v2 ev2 => ?_)
    have hf := lz_s hf v2 ev2
    refine lv_istore (lv' := [(5, .int v2), (4, .int (0 : Int32)), (0, .ref (hMo 99)), (1, .int p1), (2, .int p2), (3, .int p3)]) hx hb dX11_goes_14 hl (by decide) rfl (fun ls hl => ?_)
    refine lv_iload hx hb dX11_goes_16 (lv_at hl 0 rfl) ?_
    refine lv_ldcw (v := (1000000000 : Int32)) hx hb hown (htl _ (mB33 _ (List.mem_of_getElem? (i := 17) rfl))) dX11_goes_18 ?_
    refine lv_icmp_ge (tgt := 118) hx hb dX11_goes_21 (by decide) (fun c3 => ?_) (fun c3 => ?_)
    · have hf := it_t hf c3
      exact w118 (0 : Int32) v2 sMo H locs ls hf hP hD hS (lv_sub hl [2, 3, 4, 5, 1, 0] rfl)
    · have hf := it_f hf c3
      refine lv_aload_n hx hb dX11_goes_24 rfl (lv_at hl 2 rfl) ?_
      refine lv_iload_n hx hb dX11_goes_25 rfl (lv_at hl 3 rfl) ?_
      refine lv_iconst (v := (0 : Int32)) hx hb dX11_goes_26 (by decide) ?_
      obtain ⟨o4, go4, hf⟩ := bd_s hf
      refine ro_Vi (As := [.int p1, .int (0 : Int32)]) (rest := []) ⟨hx, hb, hml, hown, hts⟩ (c_X11_pumpOf l D K F hMo sMo p1 (0 : Int32) o4 go4) (cwV 2 hts (gcV_X11_pumpOf (mB23 _ (List.mem_of_getElem? (i := 9) rfl))) rfl rfl rfl hdV_X11_pumpOf ⟨Nat.le_of_ble_eq_true rfl, Nat.le_of_ble_eq_true rfl⟩) hK hP hS hP (va_recv hK hP (ci := 10) (q0 := 0) rfl o_Mo) rfl hl.1 rfl (Nat.le_of_ble_eq_true rfl) dX11_goes_27 ⟨Nat.zero_le _, Nat.zero_le _⟩ (fun H locs hP hS => ?_)
      refine lv_if_le (tgt := 118) hx hb dX11_goes_30 (by decide) (fun c5 => ?_) (fun c5 => ?_)
      · have hf := it_t hf c5
        exact w118 (0 : Int32) v2 sMo H locs ls hf hP hD hS (lv_sub hl [2, 3, 4, 5, 1, 0] rfl)
      · have hf := it_f hf c5
        refine lv_iconst (v := (1 : Int32)) hx hb dX11_goes_33 (by decide) ?_
        refine lv_istore (lv' := [(6, .int (1 : Int32)), (5, .int v2), (4, .int (0 : Int32)), (0, .ref (hMo 99)), (1, .int p1), (2, .int p2), (3, .int p3)]) hx hb dX11_goes_34 hl (by decide) rfl (fun ls hl => ?_)
        exact w36 F (0 : Int32) v2 (1 : Int32) sMo H locs ls hf hP hD hS (lv_sub hl [3, 4, 5, 6, 2, 1, 0] rfl)
  rw [hHe] at hgo
  exact hgo

theorem gcV_X11_goes {T0 : Cond} {own : String} {i : Nat} (h : Cond.methodLink own i yX11_goes ∈ wsL_law) : GoodIn (T0 :: wsL_law) (wsV own i RX11 yX11_goes wz_X11_goes) := gV h (mB50 _ (List.mem_of_getElem? (i := 12) rfl)) (mB50 _ (List.mem_of_getElem? (i := 13) rfl)) (mB1 _ (List.mem_of_getElem? (i := 5) rfl)) (mB50 _ (List.mem_of_getElem? (i := 14) rfl))
theorem hdV_X11_goes : yX11_goes.cls = RX11 ∧ yX11_goes.cls ≠ "java/lang/invoke/MethodHandle" ∧ yX11_goes.cls ≠ "java/lang/invoke/VarHandle" ∧ (parseMethodDescriptor yX11_goes.desc).map (fun d => d.parameters.length) = some 3 := by decide +kernel
def wz_X11_layNet : List Cond := .code yX11_layNet cX11_layNet 5 none :: wsL_law
abbrev r_X11_layNet : Room := { frames := 2, cells := 0, slots := 0, locals := 49 }
set_option maxHeartbeats 4000000 in
set_option maxRecDepth 100000 in
theorem c_X11_layNet (l : Launch) (D : va_G) (K : Nat → ClassId) (F : Nat) (hMo : Nat → Nat) (sz : Nat) (sMo : MS) (p1 : Int32) (res : MS) (hf : f_X11_layNet F p1 sMo = some res) : Met l yX11_layNet wz_X11_layNet r_X11_layNet (va_Pc [.ref (hMo 99), .int p1] (PW D K (wMo K hMo sMo) sz)) (va_Qv (fun u => u = res) (fun u t => BW D K (va_A (wMo K hMo sMo) sz) (wMo K hMo u) t) (va_A (wMo K hMo sMo) sz)) 0 0 (va_A (wMo K hMo sMo) sz) := by
  refine Met.ofW (cc := cX11_layNet) (maxL := 5) (ret := none) (by decide) rfl ?_
  intro p e s m args below meth c s₁ B hml hv
  obtain ⟨hargs, hsz, hP, hK, hD0⟩ := hv
  have hx := B.exec
  have hb := B.bytes
  have hr := B.returns
  have hts := atoms_spec (ws := wz_X11_layNet) B.pre
  have htl : ∀ w ∈ wsL_law, w.before args s = true := fun w h => hts w (List.mem_cons_of_mem _ h)
  have hown : s.vm.findClass RX11 = some m.cls := findClass_of_methodNamed B.named
  have hlocks := B.notSynchronized
  subst hsz
  have hD := hD0.self (sz := s.heap.size)
  generalize hAe : va_A (wMo K hMo sMo) s.heap.size = A at hD ⊢
  have hA : ∀ q : Nat, s.heap.size ≤ q → A q := fun q h => by rw [← hAe]; exact Or.inr h
  have hS : va_S A s.heap s.heap [] := va_S.rf
  have iX11 : ∀ w ∈ wsX110, w ∈ wz_X11_layNet := fun w h => List.mem_cons_of_mem _ (inlX11 w h)
  suffices hgo : ∀ Q : State → Prop, Q = MQ below (va_Qv (fun u => u = res) (fun u t => BW D K A (wMo K hMo u) t) A) args s 0 0 A → W p l e (headSpec wz_X11_layNet r_X11_layNet).room s m args below meth c s.heap [] 0 0 Q (entryFrame m args 5) from hgo _ rfl
  intro Q hQ
  have w121 : ∀ (k56 : Int32 → MS → Option MS), (∀ (x2 : Int32), ∀ (sMo : MS), ∀ (H : Heap) (locs : List Loc) (ls : Array Slot), k56 x2 sMo = some res → va_P D vwCl (wMo K hMo sMo) H → va_D A (wMo K hMo sMo) → va_S A s.heap H locs → lv_has ls 5 [(0, .ref (hMo 99)), (1, .int p1), (2, .int x2)] → W p l e (headSpec wz_X11_layNet r_X11_layNet).room s m args below meth c H locs 0 0 Q (F0 m 56 ls [])) → ∀ (x2 : Int32), ∀ (sMo : MS), ∀ (H : Heap) (locs : List Loc) (ls : Array Slot), f_X11_layNet_121 F p1 k56 x2 sMo = some res → va_P D vwCl (wMo K hMo sMo) H → va_D A (wMo K hMo sMo) → va_S A s.heap H locs → lv_has ls 5 [(0, .ref (hMo 99)), (1, .int p1), (2, .int x2)] → W p l e (headSpec wz_X11_layNet r_X11_layNet).room s m args below meth c H locs 0 0 Q (F0 m 121 ls []) := by
    intro k56 hk56 x2 sMo H locs ls hf hP hD hS hl
    unfold f_X11_layNet_121 at hf
    refine lv_goto (tgt := 56) hx hb dX11_layNet_121 (by decide) ?_
    exact hk56 x2 sMo H locs ls hf hP hD hS (lv_sub hl [0, 1, 2] rfl)
  have w115 : ∀ (k64 : Int32 → Int32 → MS → Option MS), (∀ (x2 : Int32), ∀ (x3 : Int32), ∀ (sMo : MS), ∀ (H : Heap) (locs : List Loc) (ls : Array Slot), k64 x2 x3 sMo = some res → va_P D vwCl (wMo K hMo sMo) H → va_D A (wMo K hMo sMo) → va_S A s.heap H locs → lv_has ls 5 [(0, .ref (hMo 99)), (1, .int p1), (2, .int x2), (3, .int x3)] → W p l e (headSpec wz_X11_layNet r_X11_layNet).room s m args below meth c H locs 0 0 Q (F0 m 64 ls [])) → ∀ (x2 : Int32), ∀ (x3 : Int32), ∀ (sMo : MS), ∀ (H : Heap) (locs : List Loc) (ls : Array Slot), f_X11_layNet_115 F p1 k64 x2 x3 sMo = some res → va_P D vwCl (wMo K hMo sMo) H → va_D A (wMo K hMo sMo) → va_S A s.heap H locs → lv_has ls 5 [(0, .ref (hMo 99)), (1, .int p1), (2, .int x2), (3, .int x3)] → W p l e (headSpec wz_X11_layNet r_X11_layNet).room s m args below meth c H locs 0 0 Q (F0 m 115 ls []) := by
    intro k64 hk64 x2 x3 sMo H locs ls hf hP hD hS hl
    unfold f_X11_layNet_115 at hf
    obtain ⟨v23, ev23⟩ : ∃ z : Int32, z = x3 + (1 : Int32) := ⟨_, rfl⟩
    have hf := lz_s hf v23 ev23
    refine lv_iinc (v := v23) (lv' := [(3, .int v23), (0, .ref (hMo 99)), (1, .int p1), (2, .int x2)]) hx hb dX11_layNet_115 hl (k := 3) rfl (by rw [ev23]; rfl) (by decide) rfl (fun ls hl => ?_)
    refine lv_goto (tgt := 64) hx hb dX11_layNet_118 (by decide) ?_
    exact hk64 x2 v23 sMo H locs ls hf hP hD hS (lv_sub hl [1, 2, 3, 0] rfl)
  have w108 : ∀ (k77 : Int32 → Int32 → Int32 → MS → Option MS), (∀ (x2 : Int32), ∀ (x3 : Int32), ∀ (x4 : Int32), ∀ (sMo : MS), ∀ (H : Heap) (locs : List Loc) (ls : Array Slot), k77 x2 x3 x4 sMo = some res → va_P D vwCl (wMo K hMo sMo) H → va_D A (wMo K hMo sMo) → va_S A s.heap H locs → lv_has ls 5 [(0, .ref (hMo 99)), (1, .int p1), (2, .int x2), (3, .int x3), (4, .int x4)] → W p l e (headSpec wz_X11_layNet r_X11_layNet).room s m args below meth c H locs 0 0 Q (F0 m 77 ls [])) → ∀ (x3 : Int32), ∀ (x4 : Int32), ∀ (y0 : Int32), ∀ (sMo : MS), ∀ (H : Heap) (locs : List Loc) (ls : Array Slot), f_X11_layNet_108 F p1 k77 x3 x4 y0 sMo = some res → va_P D vwCl (wMo K hMo sMo) H → va_D A (wMo K hMo sMo) → va_S A s.heap H locs → lv_has ls 5 [(0, .ref (hMo 99)), (1, .int p1), (3, .int x3), (4, .int x4)] → W p l e (headSpec wz_X11_layNet r_X11_layNet).room s m args below meth c H locs 0 0 Q (F0 m 108 ls [.int y0]) := by
    intro k77 hk77 x3 x4 y0 sMo H locs ls hf hP hD hS hl
    unfold f_X11_layNet_108 at hf
    refine lv_istore_n (lv' := [(2, .int y0), (0, .ref (hMo 99)), (1, .int p1), (3, .int x3), (4, .int x4)]) hx hb dX11_layNet_108 rfl hl (by decide) rfl (fun ls hl => ?_)
    obtain ⟨v22, ev22⟩ : ∃ z : Int32, z = x4 + (1 : Int32) := ⟨_, rfl⟩
    have hf := lz_s hf v22 ev22
    refine lv_iinc (v := v22) (lv' := [(4, .int v22), (2, .int y0), (0, .ref (hMo 99)), (1, .int p1), (3, .int x3)]) hx hb dX11_layNet_109 hl (k := 4) rfl (by rw [ev22]; rfl) (by decide) rfl (fun ls hl => ?_)
    refine lv_goto (tgt := 77) hx hb dX11_layNet_112 (by decide) ?_
    exact hk77 y0 x3 v22 sMo H locs ls hf hP hD hS (lv_sub hl [2, 3, 1, 4, 0] rfl)
  have w103 : ∀ (k77 : Int32 → Int32 → Int32 → MS → Option MS), (∀ (x2 : Int32), ∀ (x3 : Int32), ∀ (x4 : Int32), ∀ (sMo : MS), ∀ (H : Heap) (locs : List Loc) (ls : Array Slot), k77 x2 x3 x4 sMo = some res → va_P D vwCl (wMo K hMo sMo) H → va_D A (wMo K hMo sMo) → va_S A s.heap H locs → lv_has ls 5 [(0, .ref (hMo 99)), (1, .int p1), (2, .int x2), (3, .int x3), (4, .int x4)] → W p l e (headSpec wz_X11_layNet r_X11_layNet).room s m args below meth c H locs 0 0 Q (F0 m 77 ls [])) → ∀ (x3 : Int32), ∀ (x4 : Int32), ∀ (sMo : MS), ∀ (H : Heap) (locs : List Loc) (ls : Array Slot), f_X11_layNet_103 F p1 k77 x3 x4 sMo = some res → va_P D vwCl (wMo K hMo sMo) H → va_D A (wMo K hMo sMo) → va_S A s.heap H locs → lv_has ls 5 [(0, .ref (hMo 99)), (1, .int p1), (3, .int x3), (4, .int x4)] → W p l e (headSpec wz_X11_layNet r_X11_layNet).room s m args below meth c H locs 0 0 Q (F0 m 103 ls []) := by
    intro k77 hk77 x3 x4 sMo H locs ls hf hP hD hS hl
    unfold f_X11_layNet_103 at hf
    refine lv_iconst (v := (1 : Int32)) hx hb dX11_layNet_103 (by decide) ?_
    refine lv_goto (tgt := 108) hx hb dX11_layNet_104 (by decide) ?_
    exact w108 k77 hk77 x3 x4 (1 : Int32) sMo H locs ls hf hP hD hS (lv_sub hl [0, 1, 2, 3] rfl)
  have w77 : ∀ (k64 : Int32 → Int32 → MS → Option MS), (∀ (x2 : Int32), ∀ (x3 : Int32), ∀ (sMo : MS), ∀ (H : Heap) (locs : List Loc) (ls : Array Slot), k64 x2 x3 sMo = some res → va_P D vwCl (wMo K hMo sMo) H → va_D A (wMo K hMo sMo) → va_S A s.heap H locs → lv_has ls 5 [(0, .ref (hMo 99)), (1, .int p1), (2, .int x2), (3, .int x3)] → W p l e (headSpec wz_X11_layNet r_X11_layNet).room s m args below meth c H locs 0 0 Q (F0 m 64 ls [])) → ∀ (n : Nat), ∀ (x2 : Int32), ∀ (x3 : Int32), ∀ (x4 : Int32), ∀ (sMo : MS), ∀ (H : Heap) (locs : List Loc) (ls : Array Slot), f_X11_layNet_77 F p1 k64 n x2 x3 x4 sMo = some res → va_P D vwCl (wMo K hMo sMo) H → va_D A (wMo K hMo sMo) → va_S A s.heap H locs → lv_has ls 5 [(0, .ref (hMo 99)), (1, .int p1), (2, .int x2), (3, .int x3), (4, .int x4)] → W p l e (headSpec wz_X11_layNet r_X11_layNet).room s m args below meth c H locs 0 0 Q (F0 m 77 ls []) := by
    intro k64 hk64 n
    induction n with
    | zero =>
      intro x2 x3 x4 sMo H locs ls hf
      exact absurd (show none = some res from hf) (fun h => nomatch h)
    | succ n ih =>
      intro x2 x3 x4 sMo H locs ls hf hP hD hS hl
      rw [f_X11_layNet_77] at hf
      refine lv_iload hx hb dX11_layNet_77 (lv_at hl 4 rfl) ?_
      refine lv_aload_n hx hb dX11_layNet_79 rfl (lv_at hl 0 rfl) ?_
      refine va_get (D := D) (ci := 10) (v := .ref (hMo 15)) (C := RX11) (T := TX11) (N := 41) hx hb hts iX11 hown hK hP 0 o_Mo rfl 15 (by decide) (htl _ (mB6 _ (List.mem_of_getElem? (i := 3) rfl))) (fun _ h9 => h9) rfl dX11_layNet_80 ?_
      refine lv_iconst (v := (0 : Int32)) hx hb dX11_layNet_83 (by decide) ?_
      obtain ⟨g16, hf⟩ := gd_s hf
      refine va_iald hx hb hK hP 3 0 (f := sMo.2.2.1 15) a_Mo_15 rfl (vpb_in g16) dX11_layNet_84 ?_
      refine lv_topi (fun v17 ev17 => ?_)
      have hf := lz_s hf v17 ev17
      refine lv_icmp_gt (tgt := 115) hx hb dX11_layNet_85 (by decide) (fun c18 => ?_) (fun c18 => ?_)
      · have hf := it_t hf c18
        exact w115 k64 hk64 x2 x3 sMo H locs ls hf hP hD hS (lv_sub hl [0, 1, 2, 3] rfl)
      · have hf := it_f hf c18
        refine lv_aload_n hx hb dX11_layNet_88 rfl (lv_at hl 0 rfl) ?_
        refine lv_iload_n hx hb dX11_layNet_89 rfl (lv_at hl 3 rfl) ?_
        refine lv_iload hx hb dX11_layNet_90 (lv_at hl 4 rfl) ?_
        refine lv_iload_n hx hb dX11_layNet_92 rfl (lv_at hl 1 rfl) ?_
        obtain ⟨o19, go19, hf⟩ := bd_s hf
        refine rs_Vi (As := [.int x3, .int x4, .int p1]) (rest := []) ⟨hx, hb, hml, hown, hts⟩ (c_X11_goes l D K F hMo H.size sMo x3 x4 p1 o19 go19) (cwV 3 hts (gcV_X11_goes (mB50 _ (List.mem_of_getElem? (i := 11) rfl))) rfl rfl rfl hdV_X11_goes ⟨Nat.le_of_ble_eq_true rfl, Nat.le_of_ble_eq_true rfl⟩) hK hP hD hS hA (va_recv hK hP (ci := 10) (q0 := 0) rfl o_Mo) rfl hl.1 rfl (Nat.le_of_ble_eq_true rfl) dX11_layNet_93 ⟨Nat.zero_le _, Nat.zero_le _⟩ (fun H locs hP hD hS => ?_)
        have hP : va_P D vwCl (wMo K hMo o19.2) H := hP
        have hD : va_D A (wMo K hMo o19.2) := hD
        refine lv_if_ne (tgt := 103) hx hb dX11_layNet_96 (by decide) (fun c20 => ?_) (fun c20 => ?_)
        · have hf := it_f hf c20
          exact w103 (f_X11_layNet_77 F p1 k64 n) ih x3 x4 o19.2 H locs ls hf hP hD hS (lv_sub hl [0, 1, 3, 4] rfl)
        · have hf := it_t hf c20
          refine lv_iload_n hx hb dX11_layNet_99 rfl (lv_at hl 2 rfl) ?_
          refine lv_if_eq (tgt := 107) hx hb dX11_layNet_100 (by decide) (fun c21 => ?_) (fun c21 => ?_)
          · have hf := it_t hf c21
            refine lv_iconst (v := (0 : Int32)) hx hb dX11_layNet_107 (by decide) ?_
            exact w108 (f_X11_layNet_77 F p1 k64 n) ih x3 x4 (0 : Int32) o19.2 H locs ls hf hP hD hS (lv_sub hl [0, 1, 3, 4] rfl)
          · have hf := it_f hf c21
            exact w103 (f_X11_layNet_77 F p1 k64 n) ih x3 x4 o19.2 H locs ls hf hP hD hS (lv_sub hl [0, 1, 3, 4] rfl)
  have w64 : ∀ (k56 : Int32 → MS → Option MS), (∀ (x2 : Int32), ∀ (sMo : MS), ∀ (H : Heap) (locs : List Loc) (ls : Array Slot), k56 x2 sMo = some res → va_P D vwCl (wMo K hMo sMo) H → va_D A (wMo K hMo sMo) → va_S A s.heap H locs → lv_has ls 5 [(0, .ref (hMo 99)), (1, .int p1), (2, .int x2)] → W p l e (headSpec wz_X11_layNet r_X11_layNet).room s m args below meth c H locs 0 0 Q (F0 m 56 ls [])) → ∀ (n : Nat), ∀ (x2 : Int32), ∀ (x3 : Int32), ∀ (sMo : MS), ∀ (H : Heap) (locs : List Loc) (ls : Array Slot), f_X11_layNet_64 F p1 k56 n x2 x3 sMo = some res → va_P D vwCl (wMo K hMo sMo) H → va_D A (wMo K hMo sMo) → va_S A s.heap H locs → lv_has ls 5 [(0, .ref (hMo 99)), (1, .int p1), (2, .int x2), (3, .int x3)] → W p l e (headSpec wz_X11_layNet r_X11_layNet).room s m args below meth c H locs 0 0 Q (F0 m 64 ls []) := by
    intro k56 hk56 n
    induction n with
    | zero =>
      intro x2 x3 sMo H locs ls hf
      exact absurd (show none = some res from hf) (fun h => nomatch h)
    | succ n ih =>
      intro x2 x3 sMo H locs ls hf hP hD hS hl
      rw [f_X11_layNet_64] at hf
      refine lv_iload_n hx hb dX11_layNet_64 rfl (lv_at hl 3 rfl) ?_
      refine lv_aload_n hx hb dX11_layNet_65 rfl (lv_at hl 0 rfl) ?_
      refine va_get (D := D) (ci := 10) (v := .ref (hMo 15)) (C := RX11) (T := TX11) (N := 41) hx hb hts iX11 hown hK hP 0 o_Mo rfl 15 (by decide) (htl _ (mB6 _ (List.mem_of_getElem? (i := 3) rfl))) (fun _ h9 => h9) rfl dX11_layNet_66 ?_
      refine lv_iconst (v := (5 : Int32)) hx hb dX11_layNet_69 (by decide) ?_
      obtain ⟨g13, hf⟩ := gd_s hf
      refine va_iald hx hb hK hP 3 0 (f := sMo.2.2.1 15) a_Mo_15 rfl (vpb_in g13) dX11_layNet_70 ?_
      refine lv_topi (fun v14 ev14 => ?_)
      have hf := lz_s hf v14 ev14
      refine lv_icmp_ge (tgt := 121) hx hb dX11_layNet_71 (by decide) (fun c15 => ?_) (fun c15 => ?_)
      · have hf := it_t hf c15
        exact w121 k56 hk56 x2 sMo H locs ls hf hP hD hS (lv_sub hl [0, 1, 2] rfl)
      · have hf := it_f hf c15
        refine lv_iconst (v := (0 : Int32)) hx hb dX11_layNet_74 (by decide) ?_
        refine lv_istore (lv' := [(4, .int (0 : Int32)), (0, .ref (hMo 99)), (1, .int p1), (2, .int x2), (3, .int x3)]) hx hb dX11_layNet_75 hl (by decide) rfl (fun ls hl => ?_)
        exact w77 (f_X11_layNet_64 F p1 k56 n) ih F x2 x3 (0 : Int32) sMo H locs ls hf hP hD hS (lv_sub hl [1, 2, 3, 4, 0] rfl)
  have w56 : ∀ (n : Nat), ∀ (x2 : Int32), ∀ (sMo : MS), ∀ (H : Heap) (locs : List Loc) (ls : Array Slot), f_X11_layNet_56 F p1 n x2 sMo = some res → va_P D vwCl (wMo K hMo sMo) H → va_D A (wMo K hMo sMo) → va_S A s.heap H locs → lv_has ls 5 [(0, .ref (hMo 99)), (1, .int p1), (2, .int x2)] → W p l e (headSpec wz_X11_layNet r_X11_layNet).room s m args below meth c H locs 0 0 Q (F0 m 56 ls []) := by
    intro n
    induction n with
    | zero =>
      intro x2 sMo H locs ls hf
      exact absurd (show none = some res from hf) (fun h => nomatch h)
    | succ n ih =>
      intro x2 sMo H locs ls hf hP hD hS hl
      rw [f_X11_layNet_56] at hf
      refine lv_iload_n hx hb dX11_layNet_56 rfl (lv_at hl 2 rfl) ?_
      refine lv_if_eq (tgt := 124) hx hb dX11_layNet_57 (by decide) (fun c12 => ?_) (fun c12 => ?_)
      · have hf := it_t hf c12
        have e9 := Option.some.inj hf
        rw [hQ]
        exact W.vret hx hb hr (fun t ht hW => ⟨⟨sMo, rfl, e9, ⟨by rw [ht]; exact hP, va_K.moved hW.alike hK, hD⟩⟩, hS.F ht⟩) hS.2.2 dX11_layNet_124
      · have hf := it_f hf c12
        refine lv_iconst (v := (0 : Int32)) hx hb dX11_layNet_60 (by decide) ?_
        refine lv_istore_n (lv' := [(2, .int (0 : Int32)), (0, .ref (hMo 99)), (1, .int p1)]) hx hb dX11_layNet_61 rfl hl (by decide) rfl (fun ls hl => ?_)
        refine lv_iconst (v := (0 : Int32)) hx hb dX11_layNet_62 (by decide) ?_
        refine lv_istore_n (lv' := [(3, .int (0 : Int32)), (2, .int (0 : Int32)), (0, .ref (hMo 99)), (1, .int p1)]) hx hb dX11_layNet_63 rfl hl (by decide) rfl (fun ls hl => ?_)
        exact w64 (f_X11_layNet_56 F p1 n) ih F (0 : Int32) (0 : Int32) sMo H locs ls hf hP hD hS (lv_sub hl [2, 3, 1, 0] rfl)
  have w33 : ∀ (sMo : MS), ∀ (H : Heap) (locs : List Loc) (ls : Array Slot), f_X11_layNet_33 F p1 sMo = some res → va_P D vwCl (wMo K hMo sMo) H → va_D A (wMo K hMo sMo) → va_S A s.heap H locs → lv_has ls 5 [(0, .ref (hMo 99)), (1, .int p1)] → W p l e (headSpec wz_X11_layNet r_X11_layNet).room s m args below meth c H locs 0 0 Q (F0 m 33 ls []) := by
    intro sMo H locs ls hf hP hD hS hl
    unfold f_X11_layNet_33 at hf
    refine lv_aload_n hx hb dX11_layNet_33 rfl (lv_at hl 0 rfl) ?_
    refine va_get (D := D) (ci := 10) (v := .ref (hMo 28)) (C := RX11) (T := TX11) (N := 41) hx hb hts iX11 hown hK hP 0 o_Mo rfl 28 (by decide) (htl _ (mB6 _ (List.mem_of_getElem? (i := 13) rfl))) (fun _ h9 => h9) rfl dX11_layNet_34 ?_
    refine lv_bipush (v := (41 : Int32)) hx hb dX11_layNet_37 (by decide) ?_
    refine lv_aload_n hx hb dX11_layNet_39 rfl (lv_at hl 0 rfl) ?_
    refine lv_iconst (v := (0 : Int32)) hx hb dX11_layNet_40 (by decide) ?_
    obtain ⟨o7, go7, hf⟩ := bd_s hf
    refine ro_Vi (As := [.int (0 : Int32)]) (rest := [.int (41 : Int32), .ref (hMo 28)]) ⟨hx, hb, hml, hown, hts⟩ (c_X11_placeOf l D K F hMo sMo (0 : Int32) o7 go7) (cwV 1 hts (gcV_X11_placeOf (mB26 _ (List.mem_of_getElem? (i := 19) rfl))) rfl rfl rfl hdV_X11_placeOf ⟨Nat.le_of_ble_eq_true rfl, Nat.le_of_ble_eq_true rfl⟩) hK hP hS hP (va_recv hK hP (ci := 10) (q0 := 0) rfl o_Mo) rfl hl.1 rfl (Nat.le_of_ble_eq_true rfl) dX11_layNet_41 ⟨Nat.zero_le _, Nat.zero_le _⟩ (fun H locs hP hS => ?_)
    refine lv_imul hx hb dX11_layNet_44 ?_
    refine lv_aload_n hx hb dX11_layNet_45 rfl (lv_at hl 0 rfl) ?_
    refine va_get (D := D) (ci := 10) (v := .ref (hMo 15)) (C := RX11) (T := TX11) (N := 41) hx hb hts iX11 hown hK hP 0 o_Mo rfl 15 (by decide) (htl _ (mB6 _ (List.mem_of_getElem? (i := 3) rfl))) (fun _ h9 => h9) rfl dX11_layNet_46 ?_
    refine lv_iconst (v := (1 : Int32)) hx hb dX11_layNet_49 (by decide) ?_
    obtain ⟨g8, hf⟩ := gd_s hf
    refine va_iald hx hb hK hP 3 0 (f := sMo.2.2.1 15) a_Mo_15 rfl (vpb_in g8) dX11_layNet_50 ?_
    refine lv_topi (fun v9 ev9 => ?_)
    have hf := lz_s hf v9 ev9
    refine lv_iadd hx hb dX11_layNet_51 ?_
    refine lv_iconst (v := (0 : Int32)) hx hb dX11_layNet_52 (by decide) ?_
    obtain ⟨g10, hf⟩ := gd_s hf
    refine va_iast hx hb hK hP hD hS 13 0 (f := sMo.2.2.1 28) a_Mo_28 rfl (vpb_in g10) dX11_layNet_53 (fun H locs hP hD hS => ?_)
    have hP := cvP sa_Mo_28 hP
    have hD := cvD sa_Mo_28 hD
    obtain ⟨s11, es11⟩ : ∃ z, z = sA sMo 28 ((((41 : Int32) * o7) + v9).toNatClampNeg) (0 : Int32) := ⟨_, rfl⟩
    have hP : va_P D vwCl (wMo K hMo s11) H := by rw [es11]; exact hP
    have hD : va_D A (wMo K hMo s11) := by rw [es11]; exact hD
    have hf := lz_s hf s11 es11
    refine lv_iconst (v := (1 : Int32)) hx hb dX11_layNet_54 (by decide) ?_
    refine lv_istore_n (lv' := [(2, .int (1 : Int32)), (0, .ref (hMo 99)), (1, .int p1)]) hx hb dX11_layNet_55 rfl hl (by decide) rfl (fun ls hl => ?_)
    exact w56 F (1 : Int32) s11 H locs ls hf hP hD hS (lv_sub hl [1, 2, 0] rfl)
  have w2 : ∀ (n : Nat), ∀ (x2 : Int32), ∀ (sMo : MS), ∀ (H : Heap) (locs : List Loc) (ls : Array Slot), f_X11_layNet_2 F p1 n x2 sMo = some res → va_P D vwCl (wMo K hMo sMo) H → va_D A (wMo K hMo sMo) → va_S A s.heap H locs → lv_has ls 5 [(0, .ref (hMo 99)), (1, .int p1), (2, .int x2)] → W p l e (headSpec wz_X11_layNet r_X11_layNet).room s m args below meth c H locs 0 0 Q (F0 m 2 ls []) := by
    intro n
    induction n with
    | zero =>
      intro x2 sMo H locs ls hf
      exact absurd (show none = some res from hf) (fun h => nomatch h)
    | succ n ih =>
      intro x2 sMo H locs ls hf hP hD hS hl
      rw [f_X11_layNet_2] at hf
      refine lv_iload_n hx hb dX11_layNet_2 rfl (lv_at hl 2 rfl) ?_
      refine lv_sipush (v := (369 : Int32)) hx hb dX11_layNet_3 (by decide) ?_
      refine lv_icmp_ge (tgt := 33) hx hb dX11_layNet_6 (by decide) (fun c1 => ?_) (fun c1 => ?_)
      · have hf := it_t hf c1
        exact w33 sMo H locs ls hf hP hD hS (lv_sub hl [0, 1] rfl)
      · have hf := it_f hf c1
        refine lv_aload_n hx hb dX11_layNet_9 rfl (lv_at hl 0 rfl) ?_
        refine va_get (D := D) (ci := 10) (v := .ref (hMo 28)) (C := RX11) (T := TX11) (N := 41) hx hb hts iX11 hown hK hP 0 o_Mo rfl 28 (by decide) (htl _ (mB6 _ (List.mem_of_getElem? (i := 13) rfl))) (fun _ h9 => h9) rfl dX11_layNet_10 ?_
        refine lv_iload_n hx hb dX11_layNet_13 rfl (lv_at hl 2 rfl) ?_
        refine lv_ldcw (v := (1000000000 : Int32)) hx hb hown (htl _ (mB33 _ (List.mem_of_getElem? (i := 17) rfl))) dX11_layNet_14 ?_
        obtain ⟨g2, hf⟩ := gd_s hf
        refine va_iast hx hb hK hP hD hS 13 0 (f := sMo.2.2.1 28) a_Mo_28 rfl (vpb_in g2) dX11_layNet_17 (fun H locs hP hD hS => ?_)
        have hP := cvP sa_Mo_28 hP
        have hD := cvD sa_Mo_28 hD
        obtain ⟨s3, es3⟩ : ∃ z, z = sA sMo 28 x2.toNatClampNeg (1000000000 : Int32) := ⟨_, rfl⟩
        have hP : va_P D vwCl (wMo K hMo s3) H := by rw [es3]; exact hP
        have hD : va_D A (wMo K hMo s3) := by rw [es3]; exact hD
        have hf := lz_s hf s3 es3
        refine lv_aload_n hx hb dX11_layNet_18 rfl (lv_at hl 0 rfl) ?_
        refine va_get (D := D) (ci := 10) (v := .ref (hMo 29)) (C := RX11) (T := TX11) (N := 41) hx hb hts iX11 hown hK hP 0 o_Mo rfl 29 (by decide) (htl _ (mB6 _ (List.mem_of_getElem? (i := 14) rfl))) (fun _ h9 => h9) rfl dX11_layNet_19 ?_
        refine lv_iload_n hx hb dX11_layNet_22 rfl (lv_at hl 2 rfl) ?_
        refine lv_ldcw (v := (1000000000 : Int32)) hx hb hown (htl _ (mB33 _ (List.mem_of_getElem? (i := 17) rfl))) dX11_layNet_23 ?_
        obtain ⟨g4, hf⟩ := gd_s hf
        refine va_iast hx hb hK hP hD hS 14 0 (f := s3.2.2.1 29) a_Mo_29 rfl (vpb_in g4) dX11_layNet_26 (fun H locs hP hD hS => ?_)
        have hP := cvP sa_Mo_29 hP
        have hD := cvD sa_Mo_29 hD
        obtain ⟨s5, es5⟩ : ∃ z, z = sA s3 29 x2.toNatClampNeg (1000000000 : Int32) := ⟨_, rfl⟩
        have hP : va_P D vwCl (wMo K hMo s5) H := by rw [es5]; exact hP
        have hD : va_D A (wMo K hMo s5) := by rw [es5]; exact hD
        have hf := lz_s hf s5 es5
        obtain ⟨v6, ev6⟩ : ∃ z : Int32, z = x2 + (1 : Int32) := ⟨_, rfl⟩
        have hf := lz_s hf v6 ev6
        refine lv_iinc (v := v6) (lv' := [(2, .int v6), (0, .ref (hMo 99)), (1, .int p1)]) hx hb dX11_layNet_27 hl (k := 2) rfl (by rw [ev6]; rfl) (by decide) rfl (fun ls hl => ?_)
        refine lv_goto (tgt := 2) hx hb dX11_layNet_30 (by decide) ?_
        exact ih v6 s5 H locs ls hf hP hD hS (lv_sub hl [1, 2, 0] rfl)
  have hen : entryFrame m args 5 = entryFrame m (([.ref (hMo 99), .int p1] : List Value).toArray) 5 := by rw [hargs]
  have hl := lv_entry ([.ref (hMo 99), .int p1]) (n := 5) (Nat.le_of_ble_eq_true rfl)
  rw [hen, lg_entry_eq]
  generalize (lg_sl ([.ref (hMo 99), .int p1]) ++ List.replicate (5 - (lg_sl ([.ref (hMo 99), .int p1])).length) Slot.unset).toArray = ls at hl ⊢
  have hl : lv_has ls 5 [(0, .ref (hMo 99)), (1, .int p1)] := hl
  unfold f_X11_layNet at hf
  obtain ⟨H, hHe⟩ : ∃ z, z = s.heap := ⟨_, rfl⟩
  obtain ⟨locs, hLe⟩ : ∃ z : List Loc, z = [] := ⟨_, rfl⟩
  rw [← hLe]
  have hS : va_S A s.heap H locs := by rw [hHe, hLe]; exact hS
  have hP : va_P D vwCl (wMo K hMo sMo) H := by rw [hHe]; exact hP
  have hgo : W p l e (headSpec wz_X11_layNet r_X11_layNet).room s m args below meth c H locs 0 0 Q (F0 m 0 ls []) := by
    refine lv_iconst (v := (0 : Int32)) hx hb dX11_layNet_0 (by decide) ?_
    refine lv_istore_n (lv' := [(2, .int (0 : Int32)), (0, .ref (hMo 99)), (1, .int p1)]) hx hb dX11_layNet_1 rfl hl (by decide) rfl (fun ls hl => ?_)
    exact w2 F (0 : Int32) sMo H locs ls hf hP hD hS (lv_sub hl [1, 2, 0] rfl)
  rw [hHe] at hgo
  exact hgo

def wz_X11_netTo : List Cond := .code yX11_netTo cX11_netTo 4 (some .int) :: wsL_law
abbrev r_X11_netTo : Room := { frames := 0, cells := 0, slots := 0, locals := 0 }
set_option maxHeartbeats 4000000 in
set_option maxRecDepth 100000 in
theorem c_X11_netTo (l : Launch) (D : va_G) (K : Nat → ClassId) (F : Nat) (hMo : Nat → Nat) (sMo : MS) (p1 : Int32) (res : Int32) (hf : f_X11_netTo F sMo p1 = some res) : Met l yX11_netTo wz_X11_netTo r_X11_netTo (va_Pc [.ref (hMo 99), .int p1] (PR D K (wMo K hMo sMo))) (va_Qi (fun r (_ : Unit) => r = res) BN nOne) 0 0 nOne := by
  refine Met.ofW (cc := cX11_netTo) (maxL := 4) (ret := (some .int)) (by decide) rfl ?_
  intro p e s m args below meth c s₁ B hml hv
  obtain ⟨hargs, hP, hK⟩ := hv
  have hx := B.exec
  have hb := B.bytes
  have hr := B.returns
  have hts := atoms_spec (ws := wz_X11_netTo) B.pre
  have htl : ∀ w ∈ wsL_law, w.before args s = true := fun w h => hts w (List.mem_cons_of_mem _ h)
  have hown : s.vm.findClass RX11 = some m.cls := findClass_of_methodNamed B.named
  have hlocks := B.notSynchronized
  have hS : va_S nOne s.heap s.heap [] := va_S.rf
  have iX11 : ∀ w ∈ wsX110, w ∈ wz_X11_netTo := fun w h => List.mem_cons_of_mem _ (inlX11 w h)
  suffices hgo : ∀ Q : State → Prop, Q = MQ below (va_Qi (fun r (_ : Unit) => r = res) BN nOne) args s 0 0 nOne → W p l e (headSpec wz_X11_netTo r_X11_netTo).room s m args below meth c s.heap [] 0 0 Q (entryFrame m args 4) from hgo _ rfl
  intro Q hQ
  have w53 : ∀ (x2 : Int32), ∀ (H : Heap) (locs : List Loc) (ls : Array Slot), f_X11_netTo_53 F sMo p1 x2 = some res → va_P D vwCl (wMo K hMo sMo) H → va_S nOne s.heap H locs → lv_has ls 4 [(2, .int x2)] → W p l e (headSpec wz_X11_netTo r_X11_netTo).room s m args below meth c H locs 0 0 Q (F0 m 53 ls []) := by
    intro x2 H locs ls hf hP hS hl
    unfold f_X11_netTo_53 at hf
    refine lv_iload_n hx hb dX11_netTo_53 rfl (lv_at hl 0 rfl) ?_
    refine lv_ldcw (v := (1000000000 : Int32)) hx hb hown (htl _ (mB33 _ (List.mem_of_getElem? (i := 17) rfl))) dX11_netTo_54 ?_
    refine lv_icmp_ne (tgt := 65) hx hb dX11_netTo_57 (by decide) (fun c10 => ?_) (fun c10 => ?_)
    · have hf := it_f hf c10
      refine lv_iload_n hx hb dX11_netTo_65 rfl (lv_at hl 0 rfl) ?_
      have e9 := Option.some.inj hf
      rw [hQ]
      exact W.iret (v := x2) hx hb hr (fun t ht hW => ⟨⟨x2, (), rfl, e9, trivial⟩, hS.F ht⟩) hS.2.2 dX11_netTo_66
    · have hf := it_t hf c10
      refine lv_bipush (v := (-2 : Int32)) hx hb dX11_netTo_60 (by decide) ?_
      refine lv_goto (tgt := 66) hx hb dX11_netTo_62 (by decide) ?_
      have e9 := Option.some.inj hf
      rw [hQ]
      exact W.iret (v := (-2 : Int32)) hx hb hr (fun t ht hW => ⟨⟨(-2 : Int32), (), rfl, e9, trivial⟩, hS.F ht⟩) hS.2.2 dX11_netTo_66
  have w46 : ∀ (k6 : Int32 → Int32 → Option Int32), (∀ (x2 : Int32), ∀ (x3 : Int32), ∀ (H : Heap) (locs : List Loc) (ls : Array Slot), k6 x2 x3 = some res → va_P D vwCl (wMo K hMo sMo) H → va_S nOne s.heap H locs → lv_has ls 4 [(0, .ref (hMo 99)), (1, .int p1), (2, .int x2), (3, .int x3)] → W p l e (headSpec wz_X11_netTo r_X11_netTo).room s m args below meth c H locs 0 0 Q (F0 m 6 ls [])) → ∀ (x3 : Int32), ∀ (y0 : Int32), ∀ (H : Heap) (locs : List Loc) (ls : Array Slot), f_X11_netTo_46 F sMo p1 k6 x3 y0 = some res → va_P D vwCl (wMo K hMo sMo) H → va_S nOne s.heap H locs → lv_has ls 4 [(0, .ref (hMo 99)), (1, .int p1), (3, .int x3)] → W p l e (headSpec wz_X11_netTo r_X11_netTo).room s m args below meth c H locs 0 0 Q (F0 m 46 ls [.int y0]) := by
    intro k6 hk6 x3 y0 H locs ls hf hP hS hl
    unfold f_X11_netTo_46 at hf
    refine lv_istore_n (lv' := [(2, .int y0), (0, .ref (hMo 99)), (1, .int p1), (3, .int x3)]) hx hb dX11_netTo_46 rfl hl (by decide) rfl (fun ls hl => ?_)
    obtain ⟨v9, ev9⟩ : ∃ z : Int32, z = x3 + (1 : Int32) := ⟨_, rfl⟩
    have hf := lz_s hf v9 ev9
    refine lv_iinc (v := v9) (lv' := [(3, .int v9), (2, .int y0), (0, .ref (hMo 99)), (1, .int p1)]) hx hb dX11_netTo_47 hl (k := 3) rfl (by rw [ev9]; rfl) (by decide) rfl (fun ls hl => ?_)
    refine lv_goto (tgt := 6) hx hb dX11_netTo_50 (by decide) ?_
    exact hk6 y0 v9 H locs ls hf hP hS (lv_sub hl [2, 3, 1, 0] rfl)
  have w6 : ∀ (n : Nat), ∀ (x2 : Int32), ∀ (x3 : Int32), ∀ (H : Heap) (locs : List Loc) (ls : Array Slot), f_X11_netTo_6 F sMo p1 n x2 x3 = some res → va_P D vwCl (wMo K hMo sMo) H → va_S nOne s.heap H locs → lv_has ls 4 [(0, .ref (hMo 99)), (1, .int p1), (2, .int x2), (3, .int x3)] → W p l e (headSpec wz_X11_netTo r_X11_netTo).room s m args below meth c H locs 0 0 Q (F0 m 6 ls []) := by
    intro n
    induction n with
    | zero =>
      intro x2 x3 H locs ls hf
      exact absurd (show none = some res from hf) (fun h => nomatch h)
    | succ n ih =>
      intro x2 x3 H locs ls hf hP hS hl
      rw [f_X11_netTo_6] at hf
      refine lv_iload_n hx hb dX11_netTo_6 rfl (lv_at hl 3 rfl) ?_
      refine lv_aload_n hx hb dX11_netTo_7 rfl (lv_at hl 0 rfl) ?_
      refine va_get (D := D) (ci := 10) (v := .ref (hMo 15)) (C := RX11) (T := TX11) (N := 41) hx hb hts iX11 hown hK hP 0 o_Mo rfl 15 (by decide) (htl _ (mB6 _ (List.mem_of_getElem? (i := 3) rfl))) (fun _ h9 => h9) rfl dX11_netTo_8 ?_
      refine lv_iconst (v := (0 : Int32)) hx hb dX11_netTo_11 (by decide) ?_
      obtain ⟨g1, hf⟩ := gd_s hf
      refine va_iald hx hb hK hP 3 0 (f := sMo.2.2.1 15) a_Mo_15 rfl (vpb_in g1) dX11_netTo_12 ?_
      refine lv_topi (fun v2 ev2 => ?_)
      have hf := lz_s hf v2 ev2
      refine lv_icmp_gt (tgt := 53) hx hb dX11_netTo_13 (by decide) (fun c3 => ?_) (fun c3 => ?_)
      · have hf := it_t hf c3
        exact w53 x2 H locs ls hf hP hS (lv_sub hl [2] rfl)
      · have hf := it_f hf c3
        refine lv_aload_n hx hb dX11_netTo_16 rfl (lv_at hl 0 rfl) ?_
        refine va_get (D := D) (ci := 10) (v := .ref (hMo 28)) (C := RX11) (T := TX11) (N := 41) hx hb hts iX11 hown hK hP 0 o_Mo rfl 28 (by decide) (htl _ (mB6 _ (List.mem_of_getElem? (i := 13) rfl))) (fun _ h9 => h9) rfl dX11_netTo_17 ?_
        refine lv_bipush (v := (41 : Int32)) hx hb dX11_netTo_20 (by decide) ?_
        refine lv_iload_n hx hb dX11_netTo_22 rfl (lv_at hl 1 rfl) ?_
        refine lv_imul hx hb dX11_netTo_23 ?_
        refine lv_iload_n hx hb dX11_netTo_24 rfl (lv_at hl 3 rfl) ?_
        refine lv_iadd hx hb dX11_netTo_25 ?_
        obtain ⟨g4, hf⟩ := gd_s hf
        refine va_iald hx hb hK hP 13 0 (f := sMo.2.2.1 28) a_Mo_28 rfl (vpb_in g4) dX11_netTo_26 ?_
        refine lv_topi (fun v5 ev5 => ?_)
        have hf := lz_s hf v5 ev5
        refine lv_iload_n hx hb dX11_netTo_27 rfl (lv_at hl 2 rfl) ?_
        refine lv_icmp_ge (tgt := 45) hx hb dX11_netTo_28 (by decide) (fun c6 => ?_) (fun c6 => ?_)
        · have hf := it_t hf c6
          refine lv_iload_n hx hb dX11_netTo_45 rfl (lv_at hl 2 rfl) ?_
          exact w46 (f_X11_netTo_6 F sMo p1 n) ih x3 x2 H locs ls hf hP hS (lv_sub hl [0, 1, 3] rfl)
        · have hf := it_f hf c6
          refine lv_aload_n hx hb dX11_netTo_31 rfl (lv_at hl 0 rfl) ?_
          refine va_get (D := D) (ci := 10) (v := .ref (hMo 28)) (C := RX11) (T := TX11) (N := 41) hx hb hts iX11 hown hK hP 0 o_Mo rfl 28 (by decide) (htl _ (mB6 _ (List.mem_of_getElem? (i := 13) rfl))) (fun _ h9 => h9) rfl dX11_netTo_32 ?_
          refine lv_bipush (v := (41 : Int32)) hx hb dX11_netTo_35 (by decide) ?_
          refine lv_iload_n hx hb dX11_netTo_37 rfl (lv_at hl 1 rfl) ?_
          refine lv_imul hx hb dX11_netTo_38 ?_
          refine lv_iload_n hx hb dX11_netTo_39 rfl (lv_at hl 3 rfl) ?_
          refine lv_iadd hx hb dX11_netTo_40 ?_
          obtain ⟨g7, hf⟩ := gd_s hf
          refine va_iald hx hb hK hP 13 0 (f := sMo.2.2.1 28) a_Mo_28 rfl (vpb_in g7) dX11_netTo_41 ?_
          refine lv_topi (fun v8 ev8 => ?_)
          have hf := lz_s hf v8 ev8
          refine lv_goto (tgt := 46) hx hb dX11_netTo_42 (by decide) ?_
          exact w46 (f_X11_netTo_6 F sMo p1 n) ih x3 v8 H locs ls hf hP hS (lv_sub hl [0, 1, 3] rfl)
  have hen : entryFrame m args 4 = entryFrame m (([.ref (hMo 99), .int p1] : List Value).toArray) 4 := by rw [hargs]
  have hl := lv_entry ([.ref (hMo 99), .int p1]) (n := 4) (Nat.le_of_ble_eq_true rfl)
  rw [hen, lg_entry_eq]
  generalize (lg_sl ([.ref (hMo 99), .int p1]) ++ List.replicate (4 - (lg_sl ([.ref (hMo 99), .int p1])).length) Slot.unset).toArray = ls at hl ⊢
  have hl : lv_has ls 4 [(0, .ref (hMo 99)), (1, .int p1)] := hl
  unfold f_X11_netTo at hf
  obtain ⟨H, hHe⟩ : ∃ z, z = s.heap := ⟨_, rfl⟩
  obtain ⟨locs, hLe⟩ : ∃ z : List Loc, z = [] := ⟨_, rfl⟩
  rw [← hLe]
  have hS : va_S nOne s.heap H locs := by rw [hHe, hLe]; exact hS
  have hP : va_P D vwCl (wMo K hMo sMo) H := by rw [hHe]; exact hP
  have hgo : W p l e (headSpec wz_X11_netTo r_X11_netTo).room s m args below meth c H locs 0 0 Q (F0 m 0 ls []) := by
    refine lv_ldcw (v := (1000000000 : Int32)) hx hb hown (htl _ (mB33 _ (List.mem_of_getElem? (i := 17) rfl))) dX11_netTo_0 ?_
    refine lv_istore_n (lv' := [(2, .int (1000000000 : Int32)), (0, .ref (hMo 99)), (1, .int p1)]) hx hb dX11_netTo_3 rfl hl (by decide) rfl (fun ls hl => ?_)
    refine lv_iconst (v := (0 : Int32)) hx hb dX11_netTo_4 (by decide) ?_
    refine lv_istore_n (lv' := [(3, .int (0 : Int32)), (2, .int (1000000000 : Int32)), (0, .ref (hMo 99)), (1, .int p1)]) hx hb dX11_netTo_5 rfl hl (by decide) rfl (fun ls hl => ?_)
    exact w6 F (1000000000 : Int32) (0 : Int32) H locs ls hf hP hS (lv_sub hl [2, 3, 1, 0] rfl)
  rw [hHe] at hgo
  exact hgo

theorem gcV_X11_layNet {T0 : Cond} {own : String} {i : Nat} (h : Cond.methodLink own i yX11_layNet ∈ wsL_law) : GoodIn (T0 :: wsL_law) (wsV own i RX11 yX11_layNet wz_X11_layNet) := gV h (mB50 _ (List.mem_of_getElem? (i := 8) rfl)) (mB50 _ (List.mem_of_getElem? (i := 9) rfl)) (mB1 _ (List.mem_of_getElem? (i := 5) rfl)) (mB50 _ (List.mem_of_getElem? (i := 10) rfl))
theorem hdV_X11_layNet : yX11_layNet.cls = RX11 ∧ yX11_layNet.cls ≠ "java/lang/invoke/MethodHandle" ∧ yX11_layNet.cls ≠ "java/lang/invoke/VarHandle" ∧ (parseMethodDescriptor yX11_layNet.desc).map (fun d => d.parameters.length) = some 1 := by decide +kernel
theorem gcV_X11_netTo {T0 : Cond} {own : String} {i : Nat} (h : Cond.methodLink own i yX11_netTo ∈ wsL_law) : GoodIn (T0 :: wsL_law) (wsV own i RX11 yX11_netTo wz_X11_netTo) := gV h (mB50 _ (List.mem_of_getElem? (i := 19) rfl)) (mB50 _ (List.mem_of_getElem? (i := 20) rfl)) (mB1 _ (List.mem_of_getElem? (i := 5) rfl)) (mB50 _ (List.mem_of_getElem? (i := 21) rfl))
theorem hdV_X11_netTo : yX11_netTo.cls = RX11 ∧ yX11_netTo.cls ≠ "java/lang/invoke/MethodHandle" ∧ yX11_netTo.cls ≠ "java/lang/invoke/VarHandle" ∧ (parseMethodDescriptor yX11_netTo.desc).map (fun d => d.parameters.length) = some 1 := by decide +kernel
def wz_X11_net : List Cond := .code yX11_net cX11_net 2 (some .int) :: wsL_law
abbrev r_X11_net : Room := { frames := 3, cells := 0, slots := 0, locals := 73 }
set_option maxHeartbeats 4000000 in
set_option maxRecDepth 100000 in
theorem c_X11_net (l : Launch) (D : va_G) (K : Nat → ClassId) (F : Nat) (hMo : Nat → Nat) (sz : Nat) (sMo : MS) (p1 : Int32) (res : Int32 × MS) (hf : f_X11_net F p1 sMo = some res) : Met l yX11_net wz_X11_net r_X11_net (va_Pc [.ref (hMo 99), .int p1] (PW D K (wMo K hMo sMo) sz)) (va_Qi (fun r u => r = res.1 ∧ u = res.2) (fun u t => BW D K (va_A (wMo K hMo sMo) sz) (wMo K hMo u) t) (va_A (wMo K hMo sMo) sz)) 0 0 (va_A (wMo K hMo sMo) sz) := by
  refine Met.ofW (cc := cX11_net) (maxL := 2) (ret := (some .int)) (by decide) rfl ?_
  intro p e s m args below meth c s₁ B hml hv
  obtain ⟨hargs, hsz, hP, hK, hD0⟩ := hv
  have hx := B.exec
  have hb := B.bytes
  have hr := B.returns
  have hts := atoms_spec (ws := wz_X11_net) B.pre
  have htl : ∀ w ∈ wsL_law, w.before args s = true := fun w h => hts w (List.mem_cons_of_mem _ h)
  have hown : s.vm.findClass RX11 = some m.cls := findClass_of_methodNamed B.named
  have hlocks := B.notSynchronized
  subst hsz
  have hD := hD0.self (sz := s.heap.size)
  generalize hAe : va_A (wMo K hMo sMo) s.heap.size = A at hD ⊢
  have hA : ∀ q : Nat, s.heap.size ≤ q → A q := fun q h => by rw [← hAe]; exact Or.inr h
  have hS : va_S A s.heap s.heap [] := va_S.rf
  have iX11 : ∀ w ∈ wsX110, w ∈ wz_X11_net := fun w h => List.mem_cons_of_mem _ (inlX11 w h)
  suffices hgo : ∀ Q : State → Prop, Q = MQ below (va_Qi (fun r u => r = res.1 ∧ u = res.2) (fun u t => BW D K A (wMo K hMo u) t) A) args s 0 0 A → W p l e (headSpec wz_X11_net r_X11_net).room s m args below meth c s.heap [] 0 0 Q (entryFrame m args 2) from hgo _ rfl
  intro Q hQ
  have hen : entryFrame m args 2 = entryFrame m (([.ref (hMo 99), .int p1] : List Value).toArray) 2 := by rw [hargs]
  have hl := lv_entry ([.ref (hMo 99), .int p1]) (n := 2) (Nat.le_of_ble_eq_true rfl)
  rw [hen, lg_entry_eq]
  generalize (lg_sl ([.ref (hMo 99), .int p1]) ++ List.replicate (2 - (lg_sl ([.ref (hMo 99), .int p1])).length) Slot.unset).toArray = ls at hl ⊢
  have hl : lv_has ls 2 [(0, .ref (hMo 99)), (1, .int p1)] := hl
  unfold f_X11_net at hf
  obtain ⟨H, hHe⟩ : ∃ z, z = s.heap := ⟨_, rfl⟩
  obtain ⟨locs, hLe⟩ : ∃ z : List Loc, z = [] := ⟨_, rfl⟩
  rw [← hLe]
  have hS : va_S A s.heap H locs := by rw [hHe, hLe]; exact hS
  have hP : va_P D vwCl (wMo K hMo sMo) H := by rw [hHe]; exact hP
  have hgo : W p l e (headSpec wz_X11_net r_X11_net).room s m args below meth c H locs 0 0 Q (F0 m 0 ls []) := by
    refine lv_aload_n hx hb dX11_net_0 rfl (lv_at hl 0 rfl) ?_
    obtain ⟨o1, go1, hf⟩ := bd_s hf
    refine rs_Vv (As := []) (rest := []) ⟨hx, hb, hml, hown, hts⟩ (c_X11_good l D K F hMo H.size sMo o1 go1) (cwV 0 hts (gcV_X11_good (mB18 _ (List.mem_of_getElem? (i := 7) rfl))) rfl rfl rfl hdV_X11_good ⟨Nat.le_of_ble_eq_true rfl, Nat.le_of_ble_eq_true rfl⟩) hK hP hD hS hA (va_recv hK hP (ci := 10) (q0 := 0) rfl o_Mo) rfl hl.1 rfl (Nat.le_of_ble_eq_true rfl) dX11_net_1 ⟨Nat.zero_le _, Nat.zero_le _⟩ (fun H locs hP hD hS => ?_)
    have hP : va_P D vwCl (wMo K hMo o1) H := hP
    have hD : va_D A (wMo K hMo o1) := hD
    refine lv_aload_n hx hb dX11_net_4 rfl (lv_at hl 0 rfl) ?_
    refine va_get (D := D) (ci := 10) (v := .int (o1.1 14)) (C := RX11) (T := TX11) (N := 41) hx hb hts iX11 hown hK hP 0 o_Mo rfl 14 (by decide) (htl _ (mB18 _ (List.mem_of_getElem? (i := 4) rfl))) (fun _ h9 => h9) rfl dX11_net_5 ?_
    refine lv_if_ne (tgt := 17) hx hb dX11_net_8 (by decide) (fun c2 => ?_) (fun c2 => ?_)
    · have hf := it_f hf c2
      refine lv_aload_n hx hb dX11_net_17 rfl (lv_at hl 0 rfl) ?_
      refine lv_iload_n hx hb dX11_net_18 rfl (lv_at hl 1 rfl) ?_
      obtain ⟨o3, go3, hf⟩ := bd_s hf
      refine rs_Vv (As := [.int p1]) (rest := []) ⟨hx, hb, hml, hown, hts⟩ (c_X11_layNet l D K F hMo H.size o1 p1 o3 go3) (cwV 1 hts (gcV_X11_layNet (mB50 _ (List.mem_of_getElem? (i := 7) rfl))) rfl rfl rfl hdV_X11_layNet ⟨Nat.le_of_ble_eq_true rfl, Nat.le_of_ble_eq_true rfl⟩) hK hP hD hS hA (va_recv hK hP (ci := 10) (q0 := 0) rfl o_Mo) rfl hl.1 rfl (Nat.le_of_ble_eq_true rfl) dX11_net_19 ⟨Nat.zero_le _, Nat.zero_le _⟩ (fun H locs hP hD hS => ?_)
      have hP : va_P D vwCl (wMo K hMo o3) H := hP
      have hD : va_D A (wMo K hMo o3) := hD
      refine lv_aload_n hx hb dX11_net_22 rfl (lv_at hl 0 rfl) ?_
      refine lv_aload_n hx hb dX11_net_23 rfl (lv_at hl 0 rfl) ?_
      refine lv_aload_n hx hb dX11_net_24 rfl (lv_at hl 0 rfl) ?_
      obtain ⟨o4, go4, hf⟩ := bd_s hf
      refine ro_Vi (As := []) (rest := [.ref (hMo 99), .ref (hMo 99)]) ⟨hx, hb, hml, hown, hts⟩ (c_X11_lastStation l D K F hMo o3 o4 go4) (cwV 0 hts (gcV_X11_lastStation (mB28 _ (List.mem_of_getElem? (i := 11) rfl))) rfl rfl rfl hdV_X11_lastStation ⟨Nat.le_of_ble_eq_true rfl, Nat.le_of_ble_eq_true rfl⟩) hK hP hS hP (va_recv hK hP (ci := 10) (q0 := 0) rfl o_Mo) rfl hl.1 rfl (Nat.le_of_ble_eq_true rfl) dX11_net_25 ⟨Nat.zero_le _, Nat.zero_le _⟩ (fun H locs hP hS => ?_)
      obtain ⟨o5, go5, hf⟩ := bd_s hf
      refine ro_Vi (As := [.int o4]) (rest := [.ref (hMo 99)]) ⟨hx, hb, hml, hown, hts⟩ (c_X11_placeOf l D K F hMo o3 o4 o5 go5) (cwV 1 hts (gcV_X11_placeOf (mB26 _ (List.mem_of_getElem? (i := 19) rfl))) rfl rfl rfl hdV_X11_placeOf ⟨Nat.le_of_ble_eq_true rfl, Nat.le_of_ble_eq_true rfl⟩) hK hP hS hP (va_recv hK hP (ci := 10) (q0 := 0) rfl o_Mo) rfl hl.1 rfl (Nat.le_of_ble_eq_true rfl) dX11_net_28 ⟨Nat.zero_le _, Nat.zero_le _⟩ (fun H locs hP hS => ?_)
      obtain ⟨o6, go6, hf⟩ := bd_s hf
      refine ro_Vi (As := [.int o5]) (rest := []) ⟨hx, hb, hml, hown, hts⟩ (c_X11_netTo l D K F hMo o3 o5 o6 go6) (cwV 1 hts (gcV_X11_netTo (mB50 _ (List.mem_of_getElem? (i := 18) rfl))) rfl rfl rfl hdV_X11_netTo ⟨Nat.le_of_ble_eq_true rfl, Nat.le_of_ble_eq_true rfl⟩) hK hP hS hP (va_recv hK hP (ci := 10) (q0 := 0) rfl o_Mo) rfl hl.1 rfl (Nat.le_of_ble_eq_true rfl) dX11_net_31 ⟨Nat.zero_le _, Nat.zero_le _⟩ (fun H locs hP hS => ?_)
      have e9 := Option.some.inj hf
      rw [hQ]
      exact W.iret (v := o6) hx hb hr (fun t ht hW => ⟨⟨o6, o3, rfl, ⟨pr1 e9, pr2 e9⟩, ⟨by rw [ht]; exact hP, va_K.moved hW.alike hK, hD⟩⟩, hS.F ht⟩) hS.2.2 dX11_net_34
    · have hf := it_t hf c2
      refine lv_aload_n hx hb dX11_net_11 rfl (lv_at hl 0 rfl) ?_
      refine lv_iconst (v := (1 : Int32)) hx hb dX11_net_12 (by decide) ?_
      obtain ⟨o7, go7, hf⟩ := bd_s hf
      refine rs_Vi (As := [.int (1 : Int32)]) (rest := []) ⟨hx, hb, hml, hown, hts⟩ (c_X11_no l D K F hMo H.size o1 (1 : Int32) o7 go7) (cwV 1 hts (gcV_X11_no (mB18 _ (List.mem_of_getElem? (i := 15) rfl))) rfl rfl rfl hdV_X11_no ⟨Nat.le_of_ble_eq_true rfl, Nat.le_of_ble_eq_true rfl⟩) hK hP hD hS hA (va_recv hK hP (ci := 10) (q0 := 0) rfl o_Mo) rfl hl.1 rfl (Nat.le_of_ble_eq_true rfl) dX11_net_13 ⟨Nat.zero_le _, Nat.zero_le _⟩ (fun H locs hP hD hS => ?_)
      have hP : va_P D vwCl (wMo K hMo o7.2) H := hP
      have hD : va_D A (wMo K hMo o7.2) := hD
      have e9 := Option.some.inj hf
      rw [hQ]
      exact W.iret (v := o7.1) hx hb hr (fun t ht hW => ⟨⟨o7.1, o7.2, rfl, ⟨pr1 e9, pr2 e9⟩, ⟨by rw [ht]; exact hP, va_K.moved hW.alike hK, hD⟩⟩, hS.F ht⟩) hS.2.2 dX11_net_16
  rw [hHe] at hgo
  exact hgo

def wz_X11_most : List Cond := .code yX11_most cX11_most 3 (some .int) :: wsL_law
abbrev r_X11_most : Room := { frames := 3, cells := 0, slots := 0, locals := 73 }
set_option maxHeartbeats 4000000 in
set_option maxRecDepth 100000 in
theorem c_X11_most (l : Launch) (D : va_G) (K : Nat → ClassId) (F : Nat) (hMo : Nat → Nat) (sz : Nat) (sMo : MS) (p1 : Int32) (res : Int32 × MS) (hf : f_X11_most F p1 sMo = some res) : Met l yX11_most wz_X11_most r_X11_most (va_Pc [.ref (hMo 99), .int p1] (PW D K (wMo K hMo sMo) sz)) (va_Qi (fun r u => r = res.1 ∧ u = res.2) (fun u t => BW D K (va_A (wMo K hMo sMo) sz) (wMo K hMo u) t) (va_A (wMo K hMo sMo) sz)) 0 0 (va_A (wMo K hMo sMo) sz) := by
  refine Met.ofW (cc := cX11_most) (maxL := 3) (ret := (some .int)) (by decide) rfl ?_
  intro p e s m args below meth c s₁ B hml hv
  obtain ⟨hargs, hsz, hP, hK, hD0⟩ := hv
  have hx := B.exec
  have hb := B.bytes
  have hr := B.returns
  have hts := atoms_spec (ws := wz_X11_most) B.pre
  have htl : ∀ w ∈ wsL_law, w.before args s = true := fun w h => hts w (List.mem_cons_of_mem _ h)
  have hown : s.vm.findClass RX11 = some m.cls := findClass_of_methodNamed B.named
  have hlocks := B.notSynchronized
  subst hsz
  have hD := hD0.self (sz := s.heap.size)
  generalize hAe : va_A (wMo K hMo sMo) s.heap.size = A at hD ⊢
  have hA : ∀ q : Nat, s.heap.size ≤ q → A q := fun q h => by rw [← hAe]; exact Or.inr h
  have hS : va_S A s.heap s.heap [] := va_S.rf
  have iX11 : ∀ w ∈ wsX110, w ∈ wz_X11_most := fun w h => List.mem_cons_of_mem _ (inlX11 w h)
  suffices hgo : ∀ Q : State → Prop, Q = MQ below (va_Qi (fun r u => r = res.1 ∧ u = res.2) (fun u t => BW D K A (wMo K hMo u) t) A) args s 0 0 A → W p l e (headSpec wz_X11_most r_X11_most).room s m args below meth c s.heap [] 0 0 Q (entryFrame m args 3) from hgo _ rfl
  intro Q hQ
  have w30 : ∀ (n : Nat), ∀ (x2 : Int32), ∀ (sMo : MS), ∀ (H : Heap) (locs : List Loc) (ls : Array Slot), f_X11_most_30 F p1 n x2 sMo = some res → va_P D vwCl (wMo K hMo sMo) H → va_D A (wMo K hMo sMo) → va_S A s.heap H locs → lv_has ls 3 [(0, .ref (hMo 99)), (1, .int p1), (2, .int x2)] → W p l e (headSpec wz_X11_most r_X11_most).room s m args below meth c H locs 0 0 Q (F0 m 30 ls []) := by
    intro n
    induction n with
    | zero =>
      intro x2 sMo H locs ls hf
      exact absurd (show none = some res from hf) (fun h => nomatch h)
    | succ n ih =>
      intro x2 sMo H locs ls hf hP hD hS hl
      rw [f_X11_most_30] at hf
      refine lv_iload_n hx hb dX11_most_30 rfl (lv_at hl 2 rfl) ?_
      refine lv_if_lt (tgt := 76) hx hb dX11_most_31 (by decide) (fun c8 => ?_) (fun c8 => ?_)
      · have hf := it_t hf c8
        refine lv_bipush (v := (-2 : Int32)) hx hb dX11_most_76 (by decide) ?_
        have e9 := Option.some.inj hf
        rw [hQ]
        exact W.iret (v := (-2 : Int32)) hx hb hr (fun t ht hW => ⟨⟨(-2 : Int32), sMo, rfl, ⟨pr1 e9, pr2 e9⟩, ⟨by rw [ht]; exact hP, va_K.moved hW.alike hK, hD⟩⟩, hS.F ht⟩) hS.2.2 dX11_most_78
      · have hf := it_f hf c8
        refine lv_aload_n hx hb dX11_most_34 rfl (lv_at hl 0 rfl) ?_
        refine va_get (D := D) (ci := 10) (v := .ref (hMo 28)) (C := RX11) (T := TX11) (N := 41) hx hb hts iX11 hown hK hP 0 o_Mo rfl 28 (by decide) (htl _ (mB6 _ (List.mem_of_getElem? (i := 13) rfl))) (fun _ h9 => h9) rfl dX11_most_35 ?_
        refine lv_bipush (v := (41 : Int32)) hx hb dX11_most_38 (by decide) ?_
        refine lv_iload_n hx hb dX11_most_40 rfl (lv_at hl 1 rfl) ?_
        refine lv_imul hx hb dX11_most_41 ?_
        refine lv_iload_n hx hb dX11_most_42 rfl (lv_at hl 2 rfl) ?_
        refine lv_iadd hx hb dX11_most_43 ?_
        obtain ⟨g9, hf⟩ := gd_s hf
        refine va_iald hx hb hK hP 13 0 (f := sMo.2.2.1 28) a_Mo_28 rfl (vpb_in g9) dX11_most_44 ?_
        refine lv_topi (fun v10 ev10 => ?_)
        have hf := lz_s hf v10 ev10
        refine lv_ldcw (v := (1000000000 : Int32)) hx hb hown (htl _ (mB33 _ (List.mem_of_getElem? (i := 17) rfl))) dX11_most_45 ?_
        refine lv_icmp_lt (tgt := 68) hx hb dX11_most_48 (by decide) (fun c11 => ?_) (fun c11 => ?_)
        · have hf := it_t hf c11
          refine lv_iload_n hx hb dX11_most_68 rfl (lv_at hl 2 rfl) ?_
          have e9 := Option.some.inj hf
          rw [hQ]
          exact W.iret (v := x2) hx hb hr (fun t ht hW => ⟨⟨x2, sMo, rfl, ⟨pr1 e9, pr2 e9⟩, ⟨by rw [ht]; exact hP, va_K.moved hW.alike hK, hD⟩⟩, hS.F ht⟩) hS.2.2 dX11_most_69
        · have hf := it_f hf c11
          refine lv_aload_n hx hb dX11_most_51 rfl (lv_at hl 0 rfl) ?_
          refine va_get (D := D) (ci := 10) (v := .ref (hMo 29)) (C := RX11) (T := TX11) (N := 41) hx hb hts iX11 hown hK hP 0 o_Mo rfl 29 (by decide) (htl _ (mB6 _ (List.mem_of_getElem? (i := 14) rfl))) (fun _ h9 => h9) rfl dX11_most_52 ?_
          refine lv_bipush (v := (41 : Int32)) hx hb dX11_most_55 (by decide) ?_
          refine lv_iload_n hx hb dX11_most_57 rfl (lv_at hl 1 rfl) ?_
          refine lv_imul hx hb dX11_most_58 ?_
          refine lv_iload_n hx hb dX11_most_59 rfl (lv_at hl 2 rfl) ?_
          refine lv_iadd hx hb dX11_most_60 ?_
          obtain ⟨g12, hf⟩ := gd_s hf
          refine va_iald hx hb hK hP 14 0 (f := sMo.2.2.1 29) a_Mo_29 rfl (vpb_in g12) dX11_most_61 ?_
          refine lv_topi (fun v13 ev13 => ?_)
          have hf := lz_s hf v13 ev13
          refine lv_ldcw (v := (1000000000 : Int32)) hx hb hown (htl _ (mB33 _ (List.mem_of_getElem? (i := 17) rfl))) dX11_most_62 ?_
          refine lv_icmp_ge (tgt := 70) hx hb dX11_most_65 (by decide) (fun c14 => ?_) (fun c14 => ?_)
          · have hf := it_t hf c14
            obtain ⟨v15, ev15⟩ : ∃ z : Int32, z = x2 + (-1 : Int32) := ⟨_, rfl⟩
            have hf := lz_s hf v15 ev15
            refine lv_iinc (v := v15) (lv' := [(2, .int v15), (0, .ref (hMo 99)), (1, .int p1)]) hx hb dX11_most_70 hl (k := 2) rfl (by rw [ev15]; rfl) (by decide) rfl (fun ls hl => ?_)
            refine lv_goto (tgt := 30) hx hb dX11_most_73 (by decide) ?_
            exact ih v15 sMo H locs ls hf hP hD hS (lv_sub hl [1, 2, 0] rfl)
          · have hf := it_f hf c14
            refine lv_iload_n hx hb dX11_most_68 rfl (lv_at hl 2 rfl) ?_
            have e9 := Option.some.inj hf
            rw [hQ]
            exact W.iret (v := x2) hx hb hr (fun t ht hW => ⟨⟨x2, sMo, rfl, ⟨pr1 e9, pr2 e9⟩, ⟨by rw [ht]; exact hP, va_K.moved hW.alike hK, hD⟩⟩, hS.F ht⟩) hS.2.2 dX11_most_69
  have hen : entryFrame m args 3 = entryFrame m (([.ref (hMo 99), .int p1] : List Value).toArray) 3 := by rw [hargs]
  have hl := lv_entry ([.ref (hMo 99), .int p1]) (n := 3) (Nat.le_of_ble_eq_true rfl)
  rw [hen, lg_entry_eq]
  generalize (lg_sl ([.ref (hMo 99), .int p1]) ++ List.replicate (3 - (lg_sl ([.ref (hMo 99), .int p1])).length) Slot.unset).toArray = ls at hl ⊢
  have hl : lv_has ls 3 [(0, .ref (hMo 99)), (1, .int p1)] := hl
  unfold f_X11_most at hf
  obtain ⟨H, hHe⟩ : ∃ z, z = s.heap := ⟨_, rfl⟩
  obtain ⟨locs, hLe⟩ : ∃ z : List Loc, z = [] := ⟨_, rfl⟩
  rw [← hLe]
  have hS : va_S A s.heap H locs := by rw [hHe, hLe]; exact hS
  have hP : va_P D vwCl (wMo K hMo sMo) H := by rw [hHe]; exact hP
  have hgo : W p l e (headSpec wz_X11_most r_X11_most).room s m args below meth c H locs 0 0 Q (F0 m 0 ls []) := by
    refine lv_aload_n hx hb dX11_most_0 rfl (lv_at hl 0 rfl) ?_
    obtain ⟨o1, go1, hf⟩ := bd_s hf
    refine rs_Vv (As := []) (rest := []) ⟨hx, hb, hml, hown, hts⟩ (c_X11_good l D K F hMo H.size sMo o1 go1) (cwV 0 hts (gcV_X11_good (mB18 _ (List.mem_of_getElem? (i := 7) rfl))) rfl rfl rfl hdV_X11_good ⟨Nat.le_of_ble_eq_true rfl, Nat.le_of_ble_eq_true rfl⟩) hK hP hD hS hA (va_recv hK hP (ci := 10) (q0 := 0) rfl o_Mo) rfl hl.1 rfl (Nat.le_of_ble_eq_true rfl) dX11_most_1 ⟨Nat.zero_le _, Nat.zero_le _⟩ (fun H locs hP hD hS => ?_)
    have hP : va_P D vwCl (wMo K hMo o1) H := hP
    have hD : va_D A (wMo K hMo o1) := hD
    refine lv_aload_n hx hb dX11_most_4 rfl (lv_at hl 0 rfl) ?_
    refine lv_iload_n hx hb dX11_most_5 rfl (lv_at hl 1 rfl) ?_
    obtain ⟨o2, go2, hf⟩ := bd_s hf
    refine ro_Vi (As := [.int p1]) (rest := []) ⟨hx, hb, hml, hown, hts⟩ (c_X11_isPlace l D K F hMo o1 p1 o2 go2) (cwV 1 hts (gcV_X11_isPlace (mB25 _ (List.mem_of_getElem? (i := 7) rfl))) rfl rfl rfl hdV_X11_isPlace ⟨Nat.le_of_ble_eq_true rfl, Nat.le_of_ble_eq_true rfl⟩) hK hP hS hP (va_recv hK hP (ci := 10) (q0 := 0) rfl o_Mo) rfl hl.1 rfl (Nat.le_of_ble_eq_true rfl) dX11_most_6 ⟨Nat.zero_le _, Nat.zero_le _⟩ (fun H locs hP hS => ?_)
    refine lv_if_ne (tgt := 18) hx hb dX11_most_9 (by decide) (fun c3 => ?_) (fun c3 => ?_)
    · have hf := it_f hf c3
      refine lv_aload_n hx hb dX11_most_18 rfl (lv_at hl 0 rfl) ?_
      refine lv_iconst (v := (1 : Int32)) hx hb dX11_most_19 (by decide) ?_
      obtain ⟨o4, go4, hf⟩ := bd_s hf
      refine rs_Vv (As := [.int (1 : Int32)]) (rest := []) ⟨hx, hb, hml, hown, hts⟩ (c_X11_layNet l D K F hMo H.size o1 (1 : Int32) o4 go4) (cwV 1 hts (gcV_X11_layNet (mB50 _ (List.mem_of_getElem? (i := 7) rfl))) rfl rfl rfl hdV_X11_layNet ⟨Nat.le_of_ble_eq_true rfl, Nat.le_of_ble_eq_true rfl⟩) hK hP hD hS hA (va_recv hK hP (ci := 10) (q0 := 0) rfl o_Mo) rfl hl.1 rfl (Nat.le_of_ble_eq_true rfl) dX11_most_20 ⟨Nat.zero_le _, Nat.zero_le _⟩ (fun H locs hP hD hS => ?_)
      have hP : va_P D vwCl (wMo K hMo o4) H := hP
      have hD : va_D A (wMo K hMo o4) := hD
      refine lv_aload_n hx hb dX11_most_23 rfl (lv_at hl 0 rfl) ?_
      refine va_get (D := D) (ci := 10) (v := .ref (hMo 15)) (C := RX11) (T := TX11) (N := 41) hx hb hts iX11 hown hK hP 0 o_Mo rfl 15 (by decide) (htl _ (mB6 _ (List.mem_of_getElem? (i := 3) rfl))) (fun _ h9 => h9) rfl dX11_most_24 ?_
      refine lv_iconst (v := (0 : Int32)) hx hb dX11_most_27 (by decide) ?_
      obtain ⟨g5, hf⟩ := gd_s hf
      refine va_iald hx hb hK hP 3 0 (f := o4.2.2.1 15) a_Mo_15 rfl (vpb_in g5) dX11_most_28 ?_
      refine lv_topi (fun v6 ev6 => ?_)
      have hf := lz_s hf v6 ev6
      refine lv_istore_n (lv' := [(2, .int v6), (0, .ref (hMo 99)), (1, .int p1)]) hx hb dX11_most_29 rfl hl (by decide) rfl (fun ls hl => ?_)
      exact w30 F v6 o4 H locs ls hf hP hD hS (lv_sub hl [1, 2, 0] rfl)
    · have hf := it_t hf c3
      refine lv_aload_n hx hb dX11_most_12 rfl (lv_at hl 0 rfl) ?_
      refine lv_iconst (v := (1 : Int32)) hx hb dX11_most_13 (by decide) ?_
      obtain ⟨o7, go7, hf⟩ := bd_s hf
      refine rs_Vi (As := [.int (1 : Int32)]) (rest := []) ⟨hx, hb, hml, hown, hts⟩ (c_X11_no l D K F hMo H.size o1 (1 : Int32) o7 go7) (cwV 1 hts (gcV_X11_no (mB18 _ (List.mem_of_getElem? (i := 15) rfl))) rfl rfl rfl hdV_X11_no ⟨Nat.le_of_ble_eq_true rfl, Nat.le_of_ble_eq_true rfl⟩) hK hP hD hS hA (va_recv hK hP (ci := 10) (q0 := 0) rfl o_Mo) rfl hl.1 rfl (Nat.le_of_ble_eq_true rfl) dX11_most_14 ⟨Nat.zero_le _, Nat.zero_le _⟩ (fun H locs hP hD hS => ?_)
      have hP : va_P D vwCl (wMo K hMo o7.2) H := hP
      have hD : va_D A (wMo K hMo o7.2) := hD
      have e9 := Option.some.inj hf
      rw [hQ]
      exact W.iret (v := o7.1) hx hb hr (fun t ht hW => ⟨⟨o7.1, o7.2, rfl, ⟨pr1 e9, pr2 e9⟩, ⟨by rw [ht]; exact hP, va_K.moved hW.alike hK, hD⟩⟩, hS.F ht⟩) hS.2.2 dX11_most_17
  rw [hHe] at hgo
  exact hgo

def wz_X11_worth : List Cond := .code yX11_worth cX11_worth 3 (some .int) :: wsL_law
abbrev r_X11_worth : Room := { frames := 3, cells := 0, slots := 0, locals := 73 }
set_option maxHeartbeats 4000000 in
set_option maxRecDepth 100000 in
theorem c_X11_worth (l : Launch) (D : va_G) (K : Nat → ClassId) (F : Nat) (hMo : Nat → Nat) (sz : Nat) (sMo : MS) (res : Int32 × MS) (hf : f_X11_worth F sMo = some res) : Met l yX11_worth wz_X11_worth r_X11_worth (va_Pc [.ref (hMo 99)] (PW D K (wMo K hMo sMo) sz)) (va_Qi (fun r u => r = res.1 ∧ u = res.2) (fun u t => BW D K (va_A (wMo K hMo sMo) sz) (wMo K hMo u) t) (va_A (wMo K hMo sMo) sz)) 0 0 (va_A (wMo K hMo sMo) sz) := by
  refine Met.ofW (cc := cX11_worth) (maxL := 3) (ret := (some .int)) (by decide) rfl ?_
  intro p e s m args below meth c s₁ B hml hv
  obtain ⟨hargs, hsz, hP, hK, hD0⟩ := hv
  have hx := B.exec
  have hb := B.bytes
  have hr := B.returns
  have hts := atoms_spec (ws := wz_X11_worth) B.pre
  have htl : ∀ w ∈ wsL_law, w.before args s = true := fun w h => hts w (List.mem_cons_of_mem _ h)
  have hown : s.vm.findClass RX11 = some m.cls := findClass_of_methodNamed B.named
  have hlocks := B.notSynchronized
  subst hsz
  have hD := hD0.self (sz := s.heap.size)
  generalize hAe : va_A (wMo K hMo sMo) s.heap.size = A at hD ⊢
  have hA : ∀ q : Nat, s.heap.size ≤ q → A q := fun q h => by rw [← hAe]; exact Or.inr h
  have hS : va_S A s.heap s.heap [] := va_S.rf
  have iX11 : ∀ w ∈ wsX110, w ∈ wz_X11_worth := fun w h => List.mem_cons_of_mem _ (inlX11 w h)
  suffices hgo : ∀ Q : State → Prop, Q = MQ below (va_Qi (fun r u => r = res.1 ∧ u = res.2) (fun u t => BW D K A (wMo K hMo u) t) A) args s 0 0 A → W p l e (headSpec wz_X11_worth r_X11_worth).room s m args below meth c s.heap [] 0 0 Q (entryFrame m args 3) from hgo _ rfl
  intro Q hQ
  have w64 : ∀ (sMo : MS), ∀ (H : Heap) (locs : List Loc) (ls : Array Slot), f_X11_worth_64 F sMo = some res → va_P D vwCl (wMo K hMo sMo) H → va_D A (wMo K hMo sMo) → va_S A s.heap H locs → lv_has ls 3 [] → W p l e (headSpec wz_X11_worth r_X11_worth).room s m args below meth c H locs 0 0 Q (F0 m 64 ls []) := by
    intro sMo H locs ls hf hP hD hS hl
    unfold f_X11_worth_64 at hf
    refine lv_bipush (v := (-2 : Int32)) hx hb dX11_worth_64 (by decide) ?_
    refine lv_goto (tgt := 72) hx hb dX11_worth_66 (by decide) ?_
    have e9 := Option.some.inj hf
    rw [hQ]
    exact W.iret (v := (-2 : Int32)) hx hb hr (fun t ht hW => ⟨⟨(-2 : Int32), sMo, rfl, ⟨pr1 e9, pr2 e9⟩, ⟨by rw [ht]; exact hP, va_K.moved hW.alike hK, hD⟩⟩, hS.F ht⟩) hS.2.2 dX11_worth_72
  have hen : entryFrame m args 3 = entryFrame m (([.ref (hMo 99)] : List Value).toArray) 3 := by rw [hargs]
  have hl := lv_entry ([.ref (hMo 99)]) (n := 3) (Nat.le_of_ble_eq_true rfl)
  rw [hen, lg_entry_eq]
  generalize (lg_sl ([.ref (hMo 99)]) ++ List.replicate (3 - (lg_sl ([.ref (hMo 99)])).length) Slot.unset).toArray = ls at hl ⊢
  have hl : lv_has ls 3 [(0, .ref (hMo 99))] := hl
  unfold f_X11_worth at hf
  obtain ⟨H, hHe⟩ : ∃ z, z = s.heap := ⟨_, rfl⟩
  obtain ⟨locs, hLe⟩ : ∃ z : List Loc, z = [] := ⟨_, rfl⟩
  rw [← hLe]
  have hS : va_S A s.heap H locs := by rw [hHe, hLe]; exact hS
  have hP : va_P D vwCl (wMo K hMo sMo) H := by rw [hHe]; exact hP
  have hgo : W p l e (headSpec wz_X11_worth r_X11_worth).room s m args below meth c H locs 0 0 Q (F0 m 0 ls []) := by
    refine lv_aload_n hx hb dX11_worth_0 rfl (lv_at hl 0 rfl) ?_
    obtain ⟨o1, go1, hf⟩ := bd_s hf
    refine rs_Vv (As := []) (rest := []) ⟨hx, hb, hml, hown, hts⟩ (c_X11_good l D K F hMo H.size sMo o1 go1) (cwV 0 hts (gcV_X11_good (mB18 _ (List.mem_of_getElem? (i := 7) rfl))) rfl rfl rfl hdV_X11_good ⟨Nat.le_of_ble_eq_true rfl, Nat.le_of_ble_eq_true rfl⟩) hK hP hD hS hA (va_recv hK hP (ci := 10) (q0 := 0) rfl o_Mo) rfl hl.1 rfl (Nat.le_of_ble_eq_true rfl) dX11_worth_1 ⟨Nat.zero_le _, Nat.zero_le _⟩ (fun H locs hP hD hS => ?_)
    have hP : va_P D vwCl (wMo K hMo o1) H := hP
    have hD : va_D A (wMo K hMo o1) := hD
    refine lv_aload_n hx hb dX11_worth_4 rfl (lv_at hl 0 rfl) ?_
    refine va_get (D := D) (ci := 10) (v := .int (o1.1 14)) (C := RX11) (T := TX11) (N := 41) hx hb hts iX11 hown hK hP 0 o_Mo rfl 14 (by decide) (htl _ (mB18 _ (List.mem_of_getElem? (i := 4) rfl))) (fun _ h9 => h9) rfl dX11_worth_5 ?_
    refine lv_if_ne (tgt := 17) hx hb dX11_worth_8 (by decide) (fun c2 => ?_) (fun c2 => ?_)
    · have hf := it_f hf c2
      refine lv_aload_n hx hb dX11_worth_17 rfl (lv_at hl 0 rfl) ?_
      refine lv_iconst (v := (0 : Int32)) hx hb dX11_worth_18 (by decide) ?_
      refine lv_iconst (v := (-1 : Int32)) hx hb dX11_worth_19 (by decide) ?_
      obtain ⟨o3, go3, hf⟩ := bd_s hf
      refine rs_Vv (As := [.int (0 : Int32), .int (-1 : Int32)]) (rest := []) ⟨hx, hb, hml, hown, hts⟩ (c_X11_layPlans l D K F hMo H.size o1 (0 : Int32) (-1 : Int32) o3 go3) (cwV 2 hts (gcV_X11_layPlans (mB33 _ (List.mem_of_getElem? (i := 13) rfl))) rfl rfl rfl hdV_X11_layPlans ⟨Nat.le_of_ble_eq_true rfl, Nat.le_of_ble_eq_true rfl⟩) hK hP hD hS hA (va_recv hK hP (ci := 10) (q0 := 0) rfl o_Mo) rfl hl.1 rfl (Nat.le_of_ble_eq_true rfl) dX11_worth_20 ⟨Nat.zero_le _, Nat.zero_le _⟩ (fun H locs hP hD hS => ?_)
      have hP : va_P D vwCl (wMo K hMo o3) H := hP
      have hD : va_D A (wMo K hMo o3) := hD
      refine lv_aload_n hx hb dX11_worth_23 rfl (lv_at hl 0 rfl) ?_
      refine lv_aload_n hx hb dX11_worth_24 rfl (lv_at hl 0 rfl) ?_
      refine va_get (D := D) (ci := 10) (v := .ref (hMo 15)) (C := RX11) (T := TX11) (N := 41) hx hb hts iX11 hown hK hP 0 o_Mo rfl 15 (by decide) (htl _ (mB6 _ (List.mem_of_getElem? (i := 3) rfl))) (fun _ h9 => h9) rfl dX11_worth_25 ?_
      refine lv_iconst (v := (1 : Int32)) hx hb dX11_worth_28 (by decide) ?_
      obtain ⟨g4, hf⟩ := gd_s hf
      refine va_iald hx hb hK hP 3 0 (f := o3.2.2.1 15) a_Mo_15 rfl (vpb_in g4) dX11_worth_29 ?_
      refine lv_topi (fun v5 ev5 => ?_)
      have hf := lz_s hf v5 ev5
      obtain ⟨o6, go6, hf⟩ := bd_s hf
      refine ro_Vi (As := [.int v5]) (rest := []) ⟨hx, hb, hml, hown, hts⟩ (c_X11_leastFrom l D K F hMo o3 v5 o6 go6) (cwV 1 hts (gcV_X11_leastFrom (mB33 _ (List.mem_of_getElem? (i := 18) rfl))) rfl rfl rfl hdV_X11_leastFrom ⟨Nat.le_of_ble_eq_true rfl, Nat.le_of_ble_eq_true rfl⟩) hK hP hS hP (va_recv hK hP (ci := 10) (q0 := 0) rfl o_Mo) rfl hl.1 rfl (Nat.le_of_ble_eq_true rfl) dX11_worth_30 ⟨Nat.zero_le _, Nat.zero_le _⟩ (fun H locs hP hS => ?_)
      refine lv_istore_n (lv' := [(1, .int o6), (0, .ref (hMo 99))]) hx hb dX11_worth_33 rfl hl (by decide) rfl (fun ls hl => ?_)
      refine lv_aload_n hx hb dX11_worth_34 rfl (lv_at hl 1 rfl) ?_
      refine lv_iconst (v := (0 : Int32)) hx hb dX11_worth_35 (by decide) ?_
      obtain ⟨o7, go7, hf⟩ := bd_s hf
      refine rs_Vv (As := [.int (0 : Int32)]) (rest := []) ⟨hx, hb, hml, hown, hts⟩ (c_X11_layNet l D K F hMo H.size o3 (0 : Int32) o7 go7) (cwV 1 hts (gcV_X11_layNet (mB50 _ (List.mem_of_getElem? (i := 7) rfl))) rfl rfl rfl hdV_X11_layNet ⟨Nat.le_of_ble_eq_true rfl, Nat.le_of_ble_eq_true rfl⟩) hK hP hD hS hA (va_recv hK hP (ci := 10) (q0 := 0) rfl o_Mo) rfl hl.1 rfl (Nat.le_of_ble_eq_true rfl) dX11_worth_36 ⟨Nat.zero_le _, Nat.zero_le _⟩ (fun H locs hP hD hS => ?_)
      have hP : va_P D vwCl (wMo K hMo o7) H := hP
      have hD : va_D A (wMo K hMo o7) := hD
      refine lv_aload_n hx hb dX11_worth_39 rfl (lv_at hl 1 rfl) ?_
      refine lv_aload_n hx hb dX11_worth_40 rfl (lv_at hl 1 rfl) ?_
      refine lv_aload_n hx hb dX11_worth_41 rfl (lv_at hl 1 rfl) ?_
      obtain ⟨o8, go8, hf⟩ := bd_s hf
      refine ro_Vi (As := []) (rest := [.ref (hMo 99), .ref (hMo 99)]) ⟨hx, hb, hml, hown, hts⟩ (c_X11_lastStation l D K F hMo o7 o8 go8) (cwV 0 hts (gcV_X11_lastStation (mB28 _ (List.mem_of_getElem? (i := 11) rfl))) rfl rfl rfl hdV_X11_lastStation ⟨Nat.le_of_ble_eq_true rfl, Nat.le_of_ble_eq_true rfl⟩) hK hP hS hP (va_recv hK hP (ci := 10) (q0 := 0) rfl o_Mo) rfl hl.1 rfl (Nat.le_of_ble_eq_true rfl) dX11_worth_42 ⟨Nat.zero_le _, Nat.zero_le _⟩ (fun H locs hP hS => ?_)
      obtain ⟨o9, go9, hf⟩ := bd_s hf
      refine ro_Vi (As := [.int o8]) (rest := [.ref (hMo 99)]) ⟨hx, hb, hml, hown, hts⟩ (c_X11_placeOf l D K F hMo o7 o8 o9 go9) (cwV 1 hts (gcV_X11_placeOf (mB26 _ (List.mem_of_getElem? (i := 19) rfl))) rfl rfl rfl hdV_X11_placeOf ⟨Nat.le_of_ble_eq_true rfl, Nat.le_of_ble_eq_true rfl⟩) hK hP hS hP (va_recv hK hP (ci := 10) (q0 := 0) rfl o_Mo) rfl hl.1 rfl (Nat.le_of_ble_eq_true rfl) dX11_worth_45 ⟨Nat.zero_le _, Nat.zero_le _⟩ (fun H locs hP hS => ?_)
      obtain ⟨o10, go10, hf⟩ := bd_s hf
      refine ro_Vi (As := [.int o9]) (rest := []) ⟨hx, hb, hml, hown, hts⟩ (c_X11_netTo l D K F hMo o7 o9 o10 go10) (cwV 1 hts (gcV_X11_netTo (mB50 _ (List.mem_of_getElem? (i := 18) rfl))) rfl rfl rfl hdV_X11_netTo ⟨Nat.le_of_ble_eq_true rfl, Nat.le_of_ble_eq_true rfl⟩) hK hP hS hP (va_recv hK hP (ci := 10) (q0 := 0) rfl o_Mo) rfl hl.1 rfl (Nat.le_of_ble_eq_true rfl) dX11_worth_48 ⟨Nat.zero_le _, Nat.zero_le _⟩ (fun H locs hP hS => ?_)
      refine lv_istore_n (lv' := [(2, .int o10), (1, .int o6), (0, .ref (hMo 99))]) hx hb dX11_worth_51 rfl hl (by decide) rfl (fun ls hl => ?_)
      refine lv_iload_n hx hb dX11_worth_52 rfl (lv_at hl 1 rfl) ?_
      refine lv_bipush (v := (-2 : Int32)) hx hb dX11_worth_53 (by decide) ?_
      refine lv_icmp_eq (tgt := 64) hx hb dX11_worth_55 (by decide) (fun c11 => ?_) (fun c11 => ?_)
      · have hf := it_t hf c11
        exact w64 o7 H locs ls hf hP hD hS (lv_sub hl [] rfl)
      · have hf := it_f hf c11
        refine lv_iload_n hx hb dX11_worth_58 rfl (lv_at hl 0 rfl) ?_
        refine lv_bipush (v := (-2 : Int32)) hx hb dX11_worth_59 (by decide) ?_
        refine lv_icmp_ne (tgt := 69) hx hb dX11_worth_61 (by decide) (fun c12 => ?_) (fun c12 => ?_)
        · have hf := it_f hf c12
          refine lv_iload_n hx hb dX11_worth_69 rfl (lv_at hl 1 rfl) ?_
          refine lv_iload_n hx hb dX11_worth_70 rfl (lv_at hl 0 rfl) ?_
          refine lv_isub hx hb dX11_worth_71 ?_
          have e9 := Option.some.inj hf
          rw [hQ]
          exact W.iret (v := (o6 - o10)) hx hb hr (fun t ht hW => ⟨⟨(o6 - o10), o7, rfl, ⟨pr1 e9, pr2 e9⟩, ⟨by rw [ht]; exact hP, va_K.moved hW.alike hK, hD⟩⟩, hS.F ht⟩) hS.2.2 dX11_worth_72
        · have hf := it_t hf c12
          exact w64 o7 H locs ls hf hP hD hS (lv_sub hl [] rfl)
    · have hf := it_t hf c2
      refine lv_aload_n hx hb dX11_worth_11 rfl (lv_at hl 0 rfl) ?_
      refine lv_iconst (v := (1 : Int32)) hx hb dX11_worth_12 (by decide) ?_
      obtain ⟨o13, go13, hf⟩ := bd_s hf
      refine rs_Vi (As := [.int (1 : Int32)]) (rest := []) ⟨hx, hb, hml, hown, hts⟩ (c_X11_no l D K F hMo H.size o1 (1 : Int32) o13 go13) (cwV 1 hts (gcV_X11_no (mB18 _ (List.mem_of_getElem? (i := 15) rfl))) rfl rfl rfl hdV_X11_no ⟨Nat.le_of_ble_eq_true rfl, Nat.le_of_ble_eq_true rfl⟩) hK hP hD hS hA (va_recv hK hP (ci := 10) (q0 := 0) rfl o_Mo) rfl hl.1 rfl (Nat.le_of_ble_eq_true rfl) dX11_worth_13 ⟨Nat.zero_le _, Nat.zero_le _⟩ (fun H locs hP hD hS => ?_)
      have hP : va_P D vwCl (wMo K hMo o13.2) H := hP
      have hD : va_D A (wMo K hMo o13.2) := hD
      have e9 := Option.some.inj hf
      rw [hQ]
      exact W.iret (v := o13.1) hx hb hr (fun t ht hW => ⟨⟨o13.1, o13.2, rfl, ⟨pr1 e9, pr2 e9⟩, ⟨by rw [ht]; exact hP, va_K.moved hW.alike hK, hD⟩⟩, hS.F ht⟩) hS.2.2 dX11_worth_16
  rw [hHe] at hgo
  exact hgo

def wz_X11_near : List Cond := .code yX11_near cX11_near 6 (some .int) :: wsL_law
abbrev r_X11_near : Room := { frames := 2, cells := 0, slots := 0, locals := 43 }
set_option maxHeartbeats 4000000 in
set_option maxRecDepth 100000 in
theorem c_X11_near (l : Launch) (D : va_G) (K : Nat → ClassId) (F : Nat) (hMo : Nat → Nat) (sz : Nat) (sMo : MS) (p1 : Int32) (p2 : Int32) (res : Int32 × MS) (hf : f_X11_near F p1 p2 sMo = some res) : Met l yX11_near wz_X11_near r_X11_near (va_Pc [.ref (hMo 99), .int p1, .int p2] (PW D K (wMo K hMo sMo) sz)) (va_Qi (fun r u => r = res.1 ∧ u = res.2) (fun u t => BW D K (va_A (wMo K hMo sMo) sz) (wMo K hMo u) t) (va_A (wMo K hMo sMo) sz)) 0 0 (va_A (wMo K hMo sMo) sz) := by
  refine Met.ofW (cc := cX11_near) (maxL := 6) (ret := (some .int)) (by decide) rfl ?_
  intro p e s m args below meth c s₁ B hml hv
  obtain ⟨hargs, hsz, hP, hK, hD0⟩ := hv
  have hx := B.exec
  have hb := B.bytes
  have hr := B.returns
  have hts := atoms_spec (ws := wz_X11_near) B.pre
  have htl : ∀ w ∈ wsL_law, w.before args s = true := fun w h => hts w (List.mem_cons_of_mem _ h)
  have hown : s.vm.findClass RX11 = some m.cls := findClass_of_methodNamed B.named
  have hlocks := B.notSynchronized
  subst hsz
  have hD := hD0.self (sz := s.heap.size)
  generalize hAe : va_A (wMo K hMo sMo) s.heap.size = A at hD ⊢
  have hA : ∀ q : Nat, s.heap.size ≤ q → A q := fun q h => by rw [← hAe]; exact Or.inr h
  have hS : va_S A s.heap s.heap [] := va_S.rf
  have iX11 : ∀ w ∈ wsX110, w ∈ wz_X11_near := fun w h => List.mem_cons_of_mem _ (inlX11 w h)
  suffices hgo : ∀ Q : State → Prop, Q = MQ below (va_Qi (fun r u => r = res.1 ∧ u = res.2) (fun u t => BW D K A (wMo K hMo u) t) A) args s 0 0 A → W p l e (headSpec wz_X11_near r_X11_near).room s m args below meth c s.heap [] 0 0 Q (entryFrame m args 6) from hgo _ rfl
  intro Q hQ
  have w25 : ∀ (sMo : MS), ∀ (H : Heap) (locs : List Loc) (ls : Array Slot), f_X11_near_25 F p1 p2 sMo = some res → va_P D vwCl (wMo K hMo sMo) H → va_D A (wMo K hMo sMo) → va_S A s.heap H locs → lv_has ls 6 [(0, .ref (hMo 99))] → W p l e (headSpec wz_X11_near r_X11_near).room s m args below meth c H locs 0 0 Q (F0 m 25 ls []) := by
    intro sMo H locs ls hf hP hD hS hl
    unfold f_X11_near_25 at hf
    refine lv_aload_n hx hb dX11_near_25 rfl (lv_at hl 0 rfl) ?_
    refine lv_iconst (v := (1 : Int32)) hx hb dX11_near_26 (by decide) ?_
    obtain ⟨o33, go33, hf⟩ := bd_s hf
    refine rs_Vi (As := [.int (1 : Int32)]) (rest := []) ⟨hx, hb, hml, hown, hts⟩ (c_X11_no l D K F hMo H.size sMo (1 : Int32) o33 go33) (cwV 1 hts (gcV_X11_no (mB18 _ (List.mem_of_getElem? (i := 15) rfl))) rfl rfl rfl hdV_X11_no ⟨Nat.le_of_ble_eq_true rfl, Nat.le_of_ble_eq_true rfl⟩) hK hP hD hS hA (va_recv hK hP (ci := 10) (q0 := 0) rfl o_Mo) rfl hl.1 rfl (Nat.le_of_ble_eq_true rfl) dX11_near_27 ⟨Nat.zero_le _, Nat.zero_le _⟩ (fun H locs hP hD hS => ?_)
    have hP : va_P D vwCl (wMo K hMo o33.2) H := hP
    have hD : va_D A (wMo K hMo o33.2) := hD
    have e9 := Option.some.inj hf
    rw [hQ]
    exact W.iret (v := o33.1) hx hb hr (fun t ht hW => ⟨⟨o33.1, o33.2, rfl, ⟨pr1 e9, pr2 e9⟩, ⟨by rw [ht]; exact hP, va_K.moved hW.alike hK, hD⟩⟩, hS.F ht⟩) hS.2.2 dX11_near_30
  have w159 : ∀ (sMo : MS), ∀ (H : Heap) (locs : List Loc) (ls : Array Slot), f_X11_near_159 F p1 p2 sMo = some res → va_P D vwCl (wMo K hMo sMo) H → va_D A (wMo K hMo sMo) → va_S A s.heap H locs → lv_has ls 6 [(0, .ref (hMo 99)), (2, .int p2)] → W p l e (headSpec wz_X11_near r_X11_near).room s m args below meth c H locs 0 0 Q (F0 m 159 ls []) := by
    intro sMo H locs ls hf hP hD hS hl
    unfold f_X11_near_159 at hf
    refine lv_aload_n hx hb dX11_near_159 rfl (lv_at hl 0 rfl) ?_
    refine va_get (D := D) (ci := 10) (v := .ref (hMo 30)) (C := RX11) (T := TX11) (N := 41) hx hb hts iX11 hown hK hP 0 o_Mo rfl 30 (by decide) (htl _ (mB6 _ (List.mem_of_getElem? (i := 15) rfl))) (fun _ h9 => h9) rfl dX11_near_160 ?_
    refine lv_iload_n hx hb dX11_near_163 rfl (lv_at hl 1 rfl) ?_
    obtain ⟨g28, hf⟩ := gd_s hf
    refine va_iald hx hb hK hP 15 0 (f := sMo.2.2.1 30) a_Mo_30 rfl (vpb_in g28) dX11_near_164 ?_
    refine lv_topi (fun v29 ev29 => ?_)
    have hf := lz_s hf v29 ev29
    refine lv_ldcw (v := (1000000000 : Int32)) hx hb hown (htl _ (mB33 _ (List.mem_of_getElem? (i := 17) rfl))) dX11_near_165 ?_
    refine lv_icmp_ne (tgt := 176) hx hb dX11_near_168 (by decide) (fun c30 => ?_) (fun c30 => ?_)
    · have hf := it_f hf c30
      refine lv_aload_n hx hb dX11_near_176 rfl (lv_at hl 0 rfl) ?_
      refine va_get (D := D) (ci := 10) (v := .ref (hMo 30)) (C := RX11) (T := TX11) (N := 41) hx hb hts iX11 hown hK hP 0 o_Mo rfl 30 (by decide) (htl _ (mB6 _ (List.mem_of_getElem? (i := 15) rfl))) (fun _ h9 => h9) rfl dX11_near_177 ?_
      refine lv_iload_n hx hb dX11_near_180 rfl (lv_at hl 1 rfl) ?_
      obtain ⟨g31, hf⟩ := gd_s hf
      refine va_iald hx hb hK hP 15 0 (f := sMo.2.2.1 30) a_Mo_30 rfl (vpb_in g31) dX11_near_181 ?_
      refine lv_topi (fun v32 ev32 => ?_)
      have hf := lz_s hf v32 ev32
      have e9 := Option.some.inj hf
      rw [hQ]
      exact W.iret (v := v32) hx hb hr (fun t ht hW => ⟨⟨v32, sMo, rfl, ⟨pr1 e9, pr2 e9⟩, ⟨by rw [ht]; exact hP, va_K.moved hW.alike hK, hD⟩⟩, hS.F ht⟩) hS.2.2 dX11_near_182
    · have hf := it_t hf c30
      refine lv_bipush (v := (-2 : Int32)) hx hb dX11_near_171 (by decide) ?_
      refine lv_goto (tgt := 182) hx hb dX11_near_173 (by decide) ?_
      have e9 := Option.some.inj hf
      rw [hQ]
      exact W.iret (v := (-2 : Int32)) hx hb hr (fun t ht hW => ⟨⟨(-2 : Int32), sMo, rfl, ⟨pr1 e9, pr2 e9⟩, ⟨by rw [ht]; exact hP, va_K.moved hW.alike hK, hD⟩⟩, hS.F ht⟩) hS.2.2 dX11_near_182
  have w153 : ∀ (k65 : Int32 → MS → Option (Int32 × MS)), (∀ (x3 : Int32), ∀ (sMo : MS), ∀ (H : Heap) (locs : List Loc) (ls : Array Slot), k65 x3 sMo = some res → va_P D vwCl (wMo K hMo sMo) H → va_D A (wMo K hMo sMo) → va_S A s.heap H locs → lv_has ls 6 [(0, .ref (hMo 99)), (2, .int p2), (3, .int x3)] → W p l e (headSpec wz_X11_near r_X11_near).room s m args below meth c H locs 0 0 Q (F0 m 65 ls [])) → ∀ (x3 : Int32), ∀ (sMo : MS), ∀ (H : Heap) (locs : List Loc) (ls : Array Slot), f_X11_near_153 F p1 p2 k65 x3 sMo = some res → va_P D vwCl (wMo K hMo sMo) H → va_D A (wMo K hMo sMo) → va_S A s.heap H locs → lv_has ls 6 [(0, .ref (hMo 99)), (2, .int p2), (3, .int x3)] → W p l e (headSpec wz_X11_near r_X11_near).room s m args below meth c H locs 0 0 Q (F0 m 153 ls []) := by
    intro k65 hk65 x3 sMo H locs ls hf hP hD hS hl
    unfold f_X11_near_153 at hf
    obtain ⟨v27, ev27⟩ : ∃ z : Int32, z = x3 + (1 : Int32) := ⟨_, rfl⟩
    have hf := lz_s hf v27 ev27
    refine lv_iinc (v := v27) (lv' := [(3, .int v27), (0, .ref (hMo 99)), (2, .int p2)]) hx hb dX11_near_153 hl (k := 2) rfl (by rw [ev27]; rfl) (by decide) rfl (fun ls hl => ?_)
    refine lv_goto (tgt := 65) hx hb dX11_near_156 (by decide) ?_
    exact hk65 v27 sMo H locs ls hf hP hD hS (lv_sub hl [1, 2, 0] rfl)
  have w147 : ∀ (k74 : Int32 → Int32 → MS → Option (Int32 × MS)), (∀ (x3 : Int32), ∀ (x4 : Int32), ∀ (sMo : MS), ∀ (H : Heap) (locs : List Loc) (ls : Array Slot), k74 x3 x4 sMo = some res → va_P D vwCl (wMo K hMo sMo) H → va_D A (wMo K hMo sMo) → va_S A s.heap H locs → lv_has ls 6 [(0, .ref (hMo 99)), (2, .int p2), (3, .int x3), (4, .int x4)] → W p l e (headSpec wz_X11_near r_X11_near).room s m args below meth c H locs 0 0 Q (F0 m 74 ls [])) → ∀ (x3 : Int32), ∀ (x4 : Int32), ∀ (sMo : MS), ∀ (H : Heap) (locs : List Loc) (ls : Array Slot), f_X11_near_147 F p1 p2 k74 x3 x4 sMo = some res → va_P D vwCl (wMo K hMo sMo) H → va_D A (wMo K hMo sMo) → va_S A s.heap H locs → lv_has ls 6 [(0, .ref (hMo 99)), (2, .int p2), (3, .int x3), (4, .int x4)] → W p l e (headSpec wz_X11_near r_X11_near).room s m args below meth c H locs 0 0 Q (F0 m 147 ls []) := by
    intro k74 hk74 x3 x4 sMo H locs ls hf hP hD hS hl
    unfold f_X11_near_147 at hf
    obtain ⟨v26, ev26⟩ : ∃ z : Int32, z = x4 + (1 : Int32) := ⟨_, rfl⟩
    have hf := lz_s hf v26 ev26
    refine lv_iinc (v := v26) (lv' := [(4, .int v26), (0, .ref (hMo 99)), (2, .int p2), (3, .int x3)]) hx hb dX11_near_147 hl (k := 3) rfl (by rw [ev26]; rfl) (by decide) rfl (fun ls hl => ?_)
    refine lv_goto (tgt := 74) hx hb dX11_near_150 (by decide) ?_
    exact hk74 x3 v26 sMo H locs ls hf hP hD hS (lv_sub hl [1, 2, 3, 0] rfl)
  have w141 : ∀ (k84 : Int32 → Int32 → Int32 → MS → Option (Int32 × MS)), (∀ (x3 : Int32), ∀ (x4 : Int32), ∀ (x5 : Int32), ∀ (sMo : MS), ∀ (H : Heap) (locs : List Loc) (ls : Array Slot), k84 x3 x4 x5 sMo = some res → va_P D vwCl (wMo K hMo sMo) H → va_D A (wMo K hMo sMo) → va_S A s.heap H locs → lv_has ls 6 [(0, .ref (hMo 99)), (2, .int p2), (3, .int x3), (4, .int x4), (5, .int x5)] → W p l e (headSpec wz_X11_near r_X11_near).room s m args below meth c H locs 0 0 Q (F0 m 84 ls [])) → ∀ (x3 : Int32), ∀ (x4 : Int32), ∀ (x5 : Int32), ∀ (sMo : MS), ∀ (H : Heap) (locs : List Loc) (ls : Array Slot), f_X11_near_141 F p1 p2 k84 x3 x4 x5 sMo = some res → va_P D vwCl (wMo K hMo sMo) H → va_D A (wMo K hMo sMo) → va_S A s.heap H locs → lv_has ls 6 [(0, .ref (hMo 99)), (2, .int p2), (3, .int x3), (4, .int x4), (5, .int x5)] → W p l e (headSpec wz_X11_near r_X11_near).room s m args below meth c H locs 0 0 Q (F0 m 141 ls []) := by
    intro k84 hk84 x3 x4 x5 sMo H locs ls hf hP hD hS hl
    unfold f_X11_near_141 at hf
    obtain ⟨v25, ev25⟩ : ∃ z : Int32, z = x5 + (1 : Int32) := ⟨_, rfl⟩
    have hf := lz_s hf v25 ev25
    refine lv_iinc (v := v25) (lv' := [(5, .int v25), (0, .ref (hMo 99)), (2, .int p2), (3, .int x3), (4, .int x4)]) hx hb dX11_near_141 hl (k := 4) rfl (by rw [ev25]; rfl) (by decide) rfl (fun ls hl => ?_)
    refine lv_goto (tgt := 84) hx hb dX11_near_144 (by decide) ?_
    exact hk84 x3 x4 v25 sMo H locs ls hf hP hD hS (lv_sub hl [1, 2, 3, 4, 0] rfl)
  have w84 : ∀ (k74 : Int32 → Int32 → MS → Option (Int32 × MS)), (∀ (x3 : Int32), ∀ (x4 : Int32), ∀ (sMo : MS), ∀ (H : Heap) (locs : List Loc) (ls : Array Slot), k74 x3 x4 sMo = some res → va_P D vwCl (wMo K hMo sMo) H → va_D A (wMo K hMo sMo) → va_S A s.heap H locs → lv_has ls 6 [(0, .ref (hMo 99)), (2, .int p2), (3, .int x3), (4, .int x4)] → W p l e (headSpec wz_X11_near r_X11_near).room s m args below meth c H locs 0 0 Q (F0 m 74 ls [])) → ∀ (n : Nat), ∀ (x3 : Int32), ∀ (x4 : Int32), ∀ (x5 : Int32), ∀ (sMo : MS), ∀ (H : Heap) (locs : List Loc) (ls : Array Slot), f_X11_near_84 F p1 p2 k74 n x3 x4 x5 sMo = some res → va_P D vwCl (wMo K hMo sMo) H → va_D A (wMo K hMo sMo) → va_S A s.heap H locs → lv_has ls 6 [(0, .ref (hMo 99)), (2, .int p2), (3, .int x3), (4, .int x4), (5, .int x5)] → W p l e (headSpec wz_X11_near r_X11_near).room s m args below meth c H locs 0 0 Q (F0 m 84 ls []) := by
    intro k74 hk74 n
    induction n with
    | zero =>
      intro x3 x4 x5 sMo H locs ls hf
      exact absurd (show none = some res from hf) (fun h => nomatch h)
    | succ n ih =>
      intro x3 x4 x5 sMo H locs ls hf hP hD hS hl
      rw [f_X11_near_84] at hf
      refine lv_iload hx hb dX11_near_84 (lv_at hl 4 rfl) ?_
      refine lv_bipush (v := (9 : Int32)) hx hb dX11_near_86 (by decide) ?_
      refine lv_icmp_ge (tgt := 147) hx hb dX11_near_88 (by decide) (fun c14 => ?_) (fun c14 => ?_)
      · have hf := it_t hf c14
        exact w147 k74 hk74 x3 x4 sMo H locs ls hf hP hD hS (lv_sub hl [0, 1, 2, 3] rfl)
      · have hf := it_f hf c14
        refine lv_aload_n hx hb dX11_near_91 rfl (lv_at hl 0 rfl) ?_
        refine va_get (D := D) (ci := 10) (v := .ref (hMo 30)) (C := RX11) (T := TX11) (N := 41) hx hb hts iX11 hown hK hP 0 o_Mo rfl 30 (by decide) (htl _ (mB6 _ (List.mem_of_getElem? (i := 15) rfl))) (fun _ h9 => h9) rfl dX11_near_92 ?_
        refine lv_iload hx hb dX11_near_95 (lv_at hl 3 rfl) ?_
        obtain ⟨g15, hf⟩ := gd_s hf
        refine va_iald hx hb hK hP 15 0 (f := sMo.2.2.1 30) a_Mo_30 rfl (vpb_in g15) dX11_near_97 ?_
        refine lv_topi (fun v16 ev16 => ?_)
        have hf := lz_s hf v16 ev16
        refine lv_ldcw (v := (1000000000 : Int32)) hx hb hown (htl _ (mB33 _ (List.mem_of_getElem? (i := 17) rfl))) dX11_near_98 ?_
        refine lv_icmp_ge (tgt := 141) hx hb dX11_near_101 (by decide) (fun c17 => ?_) (fun c17 => ?_)
        · have hf := it_t hf c17
          exact w141 (f_X11_near_84 F p1 p2 k74 n) ih x3 x4 x5 sMo H locs ls hf hP hD hS (lv_sub hl [0, 1, 2, 3, 4] rfl)
        · have hf := it_f hf c17
          refine lv_aload_n hx hb dX11_near_104 rfl (lv_at hl 0 rfl) ?_
          refine lv_iload hx hb dX11_near_105 (lv_at hl 3 rfl) ?_
          refine lv_iload hx hb dX11_near_107 (lv_at hl 4 rfl) ?_
          obtain ⟨o18, go18, hf⟩ := bd_s hf
          refine ro_Vi (As := [.int x4, .int x5]) (rest := []) ⟨hx, hb, hml, hown, hts⟩ (c_X11_roadOf l D K F hMo sMo x4 x5 o18 go18) (cwV 2 hts (gcV_X11_roadOf (mB25 _ (List.mem_of_getElem? (i := 11) rfl))) rfl rfl rfl hdV_X11_roadOf ⟨Nat.le_of_ble_eq_true rfl, Nat.le_of_ble_eq_true rfl⟩) hK hP hS hP (va_recv hK hP (ci := 10) (q0 := 0) rfl o_Mo) rfl hl.1 rfl (Nat.le_of_ble_eq_true rfl) dX11_near_109 ⟨Nat.zero_le _, Nat.zero_le _⟩ (fun H locs hP hS => ?_)
          refine lv_if_le (tgt := 141) hx hb dX11_near_112 (by decide) (fun c19 => ?_) (fun c19 => ?_)
          · have hf := it_t hf c19
            exact w141 (f_X11_near_84 F p1 p2 k74 n) ih x3 x4 x5 sMo H locs ls hf hP hD hS (lv_sub hl [0, 1, 2, 3, 4] rfl)
          · have hf := it_f hf c19
            refine lv_aload_n hx hb dX11_near_115 rfl (lv_at hl 0 rfl) ?_
            refine va_get (D := D) (ci := 10) (v := .ref (hMo 30)) (C := RX11) (T := TX11) (N := 41) hx hb hts iX11 hown hK hP 0 o_Mo rfl 30 (by decide) (htl _ (mB6 _ (List.mem_of_getElem? (i := 15) rfl))) (fun _ h9 => h9) rfl dX11_near_116 ?_
            refine lv_iload hx hb dX11_near_119 (lv_at hl 4 rfl) ?_
            refine lv_aload_n hx hb dX11_near_121 rfl (lv_at hl 0 rfl) ?_
            refine va_get (D := D) (ci := 10) (v := .ref (hMo 30)) (C := RX11) (T := TX11) (N := 41) hx hb hts iX11 hown hK hP 0 o_Mo rfl 30 (by decide) (htl _ (mB6 _ (List.mem_of_getElem? (i := 15) rfl))) (fun _ h9 => h9) rfl dX11_near_122 ?_
            refine lv_iload hx hb dX11_near_125 (lv_at hl 3 rfl) ?_
            obtain ⟨g20, hf⟩ := gd_s hf
            refine va_iald hx hb hK hP 15 0 (f := sMo.2.2.1 30) a_Mo_30 rfl (vpb_in g20) dX11_near_127 ?_
            refine lv_topi (fun v21 ev21 => ?_)
            have hf := lz_s hf v21 ev21
            refine lv_aload_n hx hb dX11_near_128 rfl (lv_at hl 0 rfl) ?_
            refine lv_iload hx hb dX11_near_129 (lv_at hl 3 rfl) ?_
            refine lv_iload hx hb dX11_near_131 (lv_at hl 4 rfl) ?_
            obtain ⟨o22, go22, hf⟩ := bd_s hf
            refine ro_Vi (As := [.int x4, .int x5]) (rest := [.int v21, .int x5, .ref (hMo 30)]) ⟨hx, hb, hml, hown, hts⟩ (c_X11_roadOf l D K F hMo sMo x4 x5 o22 go22) (cwV 2 hts (gcV_X11_roadOf (mB25 _ (List.mem_of_getElem? (i := 11) rfl))) rfl rfl rfl hdV_X11_roadOf ⟨Nat.le_of_ble_eq_true rfl, Nat.le_of_ble_eq_true rfl⟩) hK hP hS hP (va_recv hK hP (ci := 10) (q0 := 0) rfl o_Mo) rfl hl.1 rfl (Nat.le_of_ble_eq_true rfl) dX11_near_133 ⟨Nat.zero_le _, Nat.zero_le _⟩ (fun H locs hP hS => ?_)
            refine lv_iadd hx hb dX11_near_136 ?_
            obtain ⟨o23, go23, hf⟩ := bd_s hf
            refine rw_Si (wn := wMo K hMo (wA sMo 30 o23.2)) (As := [.ref (hMo 30), .int x5, .int (v21 + o22)]) (rest := []) ⟨hx, hb, hml, hown, hts⟩ (c_X11_less l D K F (hMo 30) 9 H.size (sMo.2.2.1 30) x5 (v21 + o22) o23 go23) (va_cwS 3 hts (gcS_X11_less (mB50 _ (List.mem_of_getElem? (i := 15) rfl))) rfl rfl rfl hdS_X11_less ⟨Nat.le_of_ble_eq_true rfl, Nat.le_of_ble_eq_true rfl⟩) hK hP hD hS hA [15] [0, 1, 2, 3, 4, 5, 6, 7, 8, 9, 10, 11, 12, 13, 14, 16, 17] [0, 1, 2, 3, 4, 5, 6, 7, 8, 9, 10, 11, 12, 13, 14, 17, 15, 16] rfl rfl (by decide +kernel) (by decide +kernel) (by decide +kernel) rfl (by decide +kernel) rfl hl.1 rfl (Nat.le_of_ble_eq_true rfl) dX11_near_137 ⟨Nat.zero_le _, Nat.zero_le _⟩ (fun H locs hP hD hS => ?_)
            have hP : va_P D vwCl (wMo K hMo (wA sMo 30 o23.2)) H := hP
            have hD : va_D A (wMo K hMo (wA sMo 30 o23.2)) := hD
            obtain ⟨s24, es24⟩ : ∃ z, z = (wA sMo 30 o23.2) := ⟨_, rfl⟩
            have hP : va_P D vwCl (wMo K hMo s24) H := by rw [es24]; exact hP
            have hD : va_D A (wMo K hMo s24) := by rw [es24]; exact hD
            have hf := lz_s hf s24 es24
            refine lv_pop hx hb dX11_near_140 rfl ?_
            exact w141 (f_X11_near_84 F p1 p2 k74 n) ih x3 x4 x5 s24 H locs ls hf hP hD hS (lv_sub hl [0, 1, 2, 3, 4] rfl)
  have w74 : ∀ (k65 : Int32 → MS → Option (Int32 × MS)), (∀ (x3 : Int32), ∀ (sMo : MS), ∀ (H : Heap) (locs : List Loc) (ls : Array Slot), k65 x3 sMo = some res → va_P D vwCl (wMo K hMo sMo) H → va_D A (wMo K hMo sMo) → va_S A s.heap H locs → lv_has ls 6 [(0, .ref (hMo 99)), (2, .int p2), (3, .int x3)] → W p l e (headSpec wz_X11_near r_X11_near).room s m args below meth c H locs 0 0 Q (F0 m 65 ls [])) → ∀ (n : Nat), ∀ (x3 : Int32), ∀ (x4 : Int32), ∀ (sMo : MS), ∀ (H : Heap) (locs : List Loc) (ls : Array Slot), f_X11_near_74 F p1 p2 k65 n x3 x4 sMo = some res → va_P D vwCl (wMo K hMo sMo) H → va_D A (wMo K hMo sMo) → va_S A s.heap H locs → lv_has ls 6 [(0, .ref (hMo 99)), (2, .int p2), (3, .int x3), (4, .int x4)] → W p l e (headSpec wz_X11_near r_X11_near).room s m args below meth c H locs 0 0 Q (F0 m 74 ls []) := by
    intro k65 hk65 n
    induction n with
    | zero =>
      intro x3 x4 sMo H locs ls hf
      exact absurd (show none = some res from hf) (fun h => nomatch h)
    | succ n ih =>
      intro x3 x4 sMo H locs ls hf hP hD hS hl
      rw [f_X11_near_74] at hf
      refine lv_iload hx hb dX11_near_74 (lv_at hl 3 rfl) ?_
      refine lv_bipush (v := (9 : Int32)) hx hb dX11_near_76 (by decide) ?_
      refine lv_icmp_ge (tgt := 153) hx hb dX11_near_78 (by decide) (fun c13 => ?_) (fun c13 => ?_)
      · have hf := it_t hf c13
        exact w153 k65 hk65 x3 sMo H locs ls hf hP hD hS (lv_sub hl [0, 1, 2] rfl)
      · have hf := it_f hf c13
        refine lv_iconst (v := (0 : Int32)) hx hb dX11_near_81 (by decide) ?_
        refine lv_istore (lv' := [(5, .int (0 : Int32)), (0, .ref (hMo 99)), (2, .int p2), (3, .int x3), (4, .int x4)]) hx hb dX11_near_82 hl (by decide) rfl (fun ls hl => ?_)
        exact w84 (f_X11_near_74 F p1 p2 k65 n) ih F x3 x4 (0 : Int32) sMo H locs ls hf hP hD hS (lv_sub hl [1, 2, 3, 4, 0] rfl)
  have w65 : ∀ (n : Nat), ∀ (x3 : Int32), ∀ (sMo : MS), ∀ (H : Heap) (locs : List Loc) (ls : Array Slot), f_X11_near_65 F p1 p2 n x3 sMo = some res → va_P D vwCl (wMo K hMo sMo) H → va_D A (wMo K hMo sMo) → va_S A s.heap H locs → lv_has ls 6 [(0, .ref (hMo 99)), (2, .int p2), (3, .int x3)] → W p l e (headSpec wz_X11_near r_X11_near).room s m args below meth c H locs 0 0 Q (F0 m 65 ls []) := by
    intro n
    induction n with
    | zero =>
      intro x3 sMo H locs ls hf
      exact absurd (show none = some res from hf) (fun h => nomatch h)
    | succ n ih =>
      intro x3 sMo H locs ls hf hP hD hS hl
      rw [f_X11_near_65] at hf
      refine lv_iload_n hx hb dX11_near_65 rfl (lv_at hl 2 rfl) ?_
      refine lv_bipush (v := (9 : Int32)) hx hb dX11_near_66 (by decide) ?_
      refine lv_icmp_ge (tgt := 159) hx hb dX11_near_68 (by decide) (fun c12 => ?_) (fun c12 => ?_)
      · have hf := it_t hf c12
        exact w159 sMo H locs ls hf hP hD hS (lv_sub hl [0, 1] rfl)
      · have hf := it_f hf c12
        refine lv_iconst (v := (0 : Int32)) hx hb dX11_near_71 (by decide) ?_
        refine lv_istore (lv' := [(4, .int (0 : Int32)), (0, .ref (hMo 99)), (2, .int p2), (3, .int x3)]) hx hb dX11_near_72 hl (by decide) rfl (fun ls hl => ?_)
        exact w74 (f_X11_near_65 F p1 p2 n) ih F x3 (0 : Int32) sMo H locs ls hf hP hD hS (lv_sub hl [1, 2, 3, 0] rfl)
  have w63 : ∀ (sMo : MS), ∀ (H : Heap) (locs : List Loc) (ls : Array Slot), f_X11_near_63 F p1 p2 sMo = some res → va_P D vwCl (wMo K hMo sMo) H → va_D A (wMo K hMo sMo) → va_S A s.heap H locs → lv_has ls 6 [(0, .ref (hMo 99)), (2, .int p2)] → W p l e (headSpec wz_X11_near r_X11_near).room s m args below meth c H locs 0 0 Q (F0 m 63 ls []) := by
    intro sMo H locs ls hf hP hD hS hl
    unfold f_X11_near_63 at hf
    refine lv_iconst (v := (0 : Int32)) hx hb dX11_near_63 (by decide) ?_
    refine lv_istore_n (lv' := [(3, .int (0 : Int32)), (0, .ref (hMo 99)), (2, .int p2)]) hx hb dX11_near_64 rfl hl (by decide) rfl (fun ls hl => ?_)
    exact w65 F (0 : Int32) sMo H locs ls hf hP hD hS (lv_sub hl [1, 2, 0] rfl)
  have w56 : ∀ (k33 : Int32 → MS → Option (Int32 × MS)), (∀ (x3 : Int32), ∀ (sMo : MS), ∀ (H : Heap) (locs : List Loc) (ls : Array Slot), k33 x3 sMo = some res → va_P D vwCl (wMo K hMo sMo) H → va_D A (wMo K hMo sMo) → va_S A s.heap H locs → lv_has ls 6 [(0, .ref (hMo 99)), (1, .int p1), (2, .int p2), (3, .int x3)] → W p l e (headSpec wz_X11_near r_X11_near).room s m args below meth c H locs 0 0 Q (F0 m 33 ls [])) → ∀ (x3 : Int32), ∀ (y1 : Int32), ∀ (y2 : Int32), ∀ (sMo : MS), ∀ (H : Heap) (locs : List Loc) (ls : Array Slot), f_X11_near_56 F p1 p2 k33 x3 y1 y2 sMo = some res → va_P D vwCl (wMo K hMo sMo) H → va_D A (wMo K hMo sMo) → va_S A s.heap H locs → lv_has ls 6 [(0, .ref (hMo 99)), (1, .int p1), (2, .int p2), (3, .int x3)] → W p l e (headSpec wz_X11_near r_X11_near).room s m args below meth c H locs 0 0 Q (F0 m 56 ls [.int y2, .int y1, .ref (hMo 30)]) := by
    intro k33 hk33 x3 y1 y2 sMo H locs ls hf hP hD hS hl
    unfold f_X11_near_56 at hf
    obtain ⟨g9, hf⟩ := gd_s hf
    refine va_iast hx hb hK hP hD hS 15 0 (f := sMo.2.2.1 30) a_Mo_30 rfl (vpb_in g9) dX11_near_56 (fun H locs hP hD hS => ?_)
    have hP := cvP sa_Mo_30 hP
    have hD := cvD sa_Mo_30 hD
    obtain ⟨s10, es10⟩ : ∃ z, z = sA sMo 30 y1.toNatClampNeg y2 := ⟨_, rfl⟩
    have hP : va_P D vwCl (wMo K hMo s10) H := by rw [es10]; exact hP
    have hD : va_D A (wMo K hMo s10) := by rw [es10]; exact hD
    have hf := lz_s hf s10 es10
    obtain ⟨v11, ev11⟩ : ∃ z : Int32, z = x3 + (1 : Int32) := ⟨_, rfl⟩
    have hf := lz_s hf v11 ev11
    refine lv_iinc (v := v11) (lv' := [(3, .int v11), (0, .ref (hMo 99)), (1, .int p1), (2, .int p2)]) hx hb dX11_near_57 hl (k := 3) rfl (by rw [ev11]; rfl) (by decide) rfl (fun ls hl => ?_)
    refine lv_goto (tgt := 33) hx hb dX11_near_60 (by decide) ?_
    exact hk33 v11 s10 H locs ls hf hP hD hS (lv_sub hl [1, 2, 3, 0] rfl)
  have w33 : ∀ (n : Nat), ∀ (x3 : Int32), ∀ (sMo : MS), ∀ (H : Heap) (locs : List Loc) (ls : Array Slot), f_X11_near_33 F p1 p2 n x3 sMo = some res → va_P D vwCl (wMo K hMo sMo) H → va_D A (wMo K hMo sMo) → va_S A s.heap H locs → lv_has ls 6 [(0, .ref (hMo 99)), (1, .int p1), (2, .int p2), (3, .int x3)] → W p l e (headSpec wz_X11_near r_X11_near).room s m args below meth c H locs 0 0 Q (F0 m 33 ls []) := by
    intro n
    induction n with
    | zero =>
      intro x3 sMo H locs ls hf
      exact absurd (show none = some res from hf) (fun h => nomatch h)
    | succ n ih =>
      intro x3 sMo H locs ls hf hP hD hS hl
      rw [f_X11_near_33] at hf
      refine lv_iload_n hx hb dX11_near_33 rfl (lv_at hl 3 rfl) ?_
      refine lv_bipush (v := (9 : Int32)) hx hb dX11_near_34 (by decide) ?_
      refine lv_icmp_ge (tgt := 63) hx hb dX11_near_36 (by decide) (fun c7 => ?_) (fun c7 => ?_)
      · have hf := it_t hf c7
        exact w63 sMo H locs ls hf hP hD hS (lv_sub hl [0, 2] rfl)
      · have hf := it_f hf c7
        refine lv_aload_n hx hb dX11_near_39 rfl (lv_at hl 0 rfl) ?_
        refine va_get (D := D) (ci := 10) (v := .ref (hMo 30)) (C := RX11) (T := TX11) (N := 41) hx hb hts iX11 hown hK hP 0 o_Mo rfl 30 (by decide) (htl _ (mB6 _ (List.mem_of_getElem? (i := 15) rfl))) (fun _ h9 => h9) rfl dX11_near_40 ?_
        refine lv_iload_n hx hb dX11_near_43 rfl (lv_at hl 3 rfl) ?_
        refine lv_iload_n hx hb dX11_near_44 rfl (lv_at hl 3 rfl) ?_
        refine lv_iload_n hx hb dX11_near_45 rfl (lv_at hl 1 rfl) ?_
        refine lv_icmp_ne (tgt := 53) hx hb dX11_near_46 (by decide) (fun c8 => ?_) (fun c8 => ?_)
        · have hf := it_f hf c8
          refine lv_ldcw (v := (1000000000 : Int32)) hx hb hown (htl _ (mB33 _ (List.mem_of_getElem? (i := 17) rfl))) dX11_near_53 ?_
          exact w56 (f_X11_near_33 F p1 p2 n) ih x3 x3 (1000000000 : Int32) sMo H locs ls hf hP hD hS (lv_sub hl [0, 1, 2, 3] rfl)
        · have hf := it_t hf c8
          refine lv_iconst (v := (0 : Int32)) hx hb dX11_near_49 (by decide) ?_
          refine lv_goto (tgt := 56) hx hb dX11_near_50 (by decide) ?_
          exact w56 (f_X11_near_33 F p1 p2 n) ih x3 x3 (0 : Int32) sMo H locs ls hf hP hD hS (lv_sub hl [0, 1, 2, 3] rfl)
  have hen : entryFrame m args 6 = entryFrame m (([.ref (hMo 99), .int p1, .int p2] : List Value).toArray) 6 := by rw [hargs]
  have hl := lv_entry ([.ref (hMo 99), .int p1, .int p2]) (n := 6) (Nat.le_of_ble_eq_true rfl)
  rw [hen, lg_entry_eq]
  generalize (lg_sl ([.ref (hMo 99), .int p1, .int p2]) ++ List.replicate (6 - (lg_sl ([.ref (hMo 99), .int p1, .int p2])).length) Slot.unset).toArray = ls at hl ⊢
  have hl : lv_has ls 6 [(0, .ref (hMo 99)), (1, .int p1), (2, .int p2)] := hl
  unfold f_X11_near at hf
  obtain ⟨H, hHe⟩ : ∃ z, z = s.heap := ⟨_, rfl⟩
  obtain ⟨locs, hLe⟩ : ∃ z : List Loc, z = [] := ⟨_, rfl⟩
  rw [← hLe]
  have hS : va_S A s.heap H locs := by rw [hHe, hLe]; exact hS
  have hP : va_P D vwCl (wMo K hMo sMo) H := by rw [hHe]; exact hP
  have hgo : W p l e (headSpec wz_X11_near r_X11_near).room s m args below meth c H locs 0 0 Q (F0 m 0 ls []) := by
    refine lv_aload_n hx hb dX11_near_0 rfl (lv_at hl 0 rfl) ?_
    obtain ⟨o1, go1, hf⟩ := bd_s hf
    refine rs_Vv (As := []) (rest := []) ⟨hx, hb, hml, hown, hts⟩ (c_X11_good l D K F hMo H.size sMo o1 go1) (cwV 0 hts (gcV_X11_good (mB18 _ (List.mem_of_getElem? (i := 7) rfl))) rfl rfl rfl hdV_X11_good ⟨Nat.le_of_ble_eq_true rfl, Nat.le_of_ble_eq_true rfl⟩) hK hP hD hS hA (va_recv hK hP (ci := 10) (q0 := 0) rfl o_Mo) rfl hl.1 rfl (Nat.le_of_ble_eq_true rfl) dX11_near_1 ⟨Nat.zero_le _, Nat.zero_le _⟩ (fun H locs hP hD hS => ?_)
    have hP : va_P D vwCl (wMo K hMo o1) H := hP
    have hD : va_D A (wMo K hMo o1) := hD
    refine lv_aload_n hx hb dX11_near_4 rfl (lv_at hl 0 rfl) ?_
    refine lv_iload_n hx hb dX11_near_5 rfl (lv_at hl 1 rfl) ?_
    obtain ⟨o2, go2, hf⟩ := bd_s hf
    refine ro_Vi (As := [.int p1]) (rest := []) ⟨hx, hb, hml, hown, hts⟩ (c_X11_isPlace l D K F hMo o1 p1 o2 go2) (cwV 1 hts (gcV_X11_isPlace (mB25 _ (List.mem_of_getElem? (i := 7) rfl))) rfl rfl rfl hdV_X11_isPlace ⟨Nat.le_of_ble_eq_true rfl, Nat.le_of_ble_eq_true rfl⟩) hK hP hS hP (va_recv hK hP (ci := 10) (q0 := 0) rfl o_Mo) rfl hl.1 rfl (Nat.le_of_ble_eq_true rfl) dX11_near_6 ⟨Nat.zero_le _, Nat.zero_le _⟩ (fun H locs hP hS => ?_)
    refine lv_if_eq (tgt := 25) hx hb dX11_near_9 (by decide) (fun c3 => ?_) (fun c3 => ?_)
    · have hf := it_t hf c3
      exact w25 o1 H locs ls hf hP hD hS (lv_sub hl [0] rfl)
    · have hf := it_f hf c3
      refine lv_aload_n hx hb dX11_near_12 rfl (lv_at hl 0 rfl) ?_
      refine lv_iload_n hx hb dX11_near_13 rfl (lv_at hl 2 rfl) ?_
      obtain ⟨o4, go4, hf⟩ := bd_s hf
      refine ro_Vi (As := [.int p2]) (rest := []) ⟨hx, hb, hml, hown, hts⟩ (c_X11_isPlace l D K F hMo o1 p2 o4 go4) (cwV 1 hts (gcV_X11_isPlace (mB25 _ (List.mem_of_getElem? (i := 7) rfl))) rfl rfl rfl hdV_X11_isPlace ⟨Nat.le_of_ble_eq_true rfl, Nat.le_of_ble_eq_true rfl⟩) hK hP hS hP (va_recv hK hP (ci := 10) (q0 := 0) rfl o_Mo) rfl hl.1 rfl (Nat.le_of_ble_eq_true rfl) dX11_near_14 ⟨Nat.zero_le _, Nat.zero_le _⟩ (fun H locs hP hS => ?_)
      refine lv_if_eq (tgt := 25) hx hb dX11_near_17 (by decide) (fun c5 => ?_) (fun c5 => ?_)
      · have hf := it_t hf c5
        exact w25 o1 H locs ls hf hP hD hS (lv_sub hl [0] rfl)
      · have hf := it_f hf c5
        refine lv_iload_n hx hb dX11_near_20 rfl (lv_at hl 1 rfl) ?_
        refine lv_iload_n hx hb dX11_near_21 rfl (lv_at hl 2 rfl) ?_
        refine lv_icmp_ne (tgt := 31) hx hb dX11_near_22 (by decide) (fun c6 => ?_) (fun c6 => ?_)
        · have hf := it_f hf c6
          refine lv_iconst (v := (0 : Int32)) hx hb dX11_near_31 (by decide) ?_
          refine lv_istore_n (lv' := [(3, .int (0 : Int32)), (0, .ref (hMo 99)), (1, .int p1), (2, .int p2)]) hx hb dX11_near_32 rfl hl (by decide) rfl (fun ls hl => ?_)
          exact w33 F (0 : Int32) o1 H locs ls hf hP hD hS (lv_sub hl [1, 2, 3, 0] rfl)
        · have hf := it_t hf c6
          exact w25 o1 H locs ls hf hP hD hS (lv_sub hl [0] rfl)
  rw [hHe] at hgo
  exact hgo

def wz_X11_layParts : List Cond := .code yX11_layParts cX11_layParts 7 none :: wsL_law
abbrev r_X11_layParts : Room := { frames := 1, cells := 0, slots := 0, locals := 29 }
set_option maxHeartbeats 4000000 in
set_option maxRecDepth 100000 in
theorem c_X11_layParts (l : Launch) (D : va_G) (K : Nat → ClassId) (F : Nat) (hMo : Nat → Nat) (sz : Nat) (sMo : MS) (p1 : Int32) (p2 : Int32) (p3 : Int32) (res : MS) (hf : f_X11_layParts F p1 p2 p3 sMo = some res) : Met l yX11_layParts wz_X11_layParts r_X11_layParts (va_Pc [.ref (hMo 99), .int p1, .int p2, .int p3] (PW D K (wMo K hMo sMo) sz)) (va_Qv (fun u => u = res) (fun u t => BW D K (va_A (wMo K hMo sMo) sz) (wMo K hMo u) t) (va_A (wMo K hMo sMo) sz)) 0 0 (va_A (wMo K hMo sMo) sz) := by
  refine Met.ofW (cc := cX11_layParts) (maxL := 7) (ret := none) (by decide) rfl ?_
  intro p e s m args below meth c s₁ B hml hv
  obtain ⟨hargs, hsz, hP, hK, hD0⟩ := hv
  have hx := B.exec
  have hb := B.bytes
  have hr := B.returns
  have hts := atoms_spec (ws := wz_X11_layParts) B.pre
  have htl : ∀ w ∈ wsL_law, w.before args s = true := fun w h => hts w (List.mem_cons_of_mem _ h)
  have hown : s.vm.findClass RX11 = some m.cls := findClass_of_methodNamed B.named
  have hlocks := B.notSynchronized
  subst hsz
  have hD := hD0.self (sz := s.heap.size)
  generalize hAe : va_A (wMo K hMo sMo) s.heap.size = A at hD ⊢
  have hA : ∀ q : Nat, s.heap.size ≤ q → A q := fun q h => by rw [← hAe]; exact Or.inr h
  have hS : va_S A s.heap s.heap [] := va_S.rf
  have iX11 : ∀ w ∈ wsX110, w ∈ wz_X11_layParts := fun w h => List.mem_cons_of_mem _ (inlX11 w h)
  suffices hgo : ∀ Q : State → Prop, Q = MQ below (va_Qv (fun u => u = res) (fun u t => BW D K A (wMo K hMo u) t) A) args s 0 0 A → W p l e (headSpec wz_X11_layParts r_X11_layParts).room s m args below meth c s.heap [] 0 0 Q (entryFrame m args 7) from hgo _ rfl
  intro Q hQ
  have w13 : ∀ (n : Nat), ∀ (x4 : Int32), ∀ (sMo : MS), ∀ (H : Heap) (locs : List Loc) (ls : Array Slot), f_X11_layParts_13 F p1 p2 p3 n x4 sMo = some res → va_P D vwCl (wMo K hMo sMo) H → va_D A (wMo K hMo sMo) → va_S A s.heap H locs → lv_has ls 7 [(0, .ref (hMo 99)), (2, .int p2), (3, .int p3), (4, .int x4)] → W p l e (headSpec wz_X11_layParts r_X11_layParts).room s m args below meth c H locs 0 0 Q (F0 m 13 ls []) := by
    intro n
    induction n with
    | zero =>
      intro x4 sMo H locs ls hf
      exact absurd (show none = some res from hf) (fun h => nomatch h)
    | succ n ih =>
      intro x4 sMo H locs ls hf hP hD hS hl
      rw [f_X11_layParts_13] at hf
      refine lv_iload hx hb dX11_layParts_13 (lv_at hl 3 rfl) ?_
      refine lv_iload_n hx hb dX11_layParts_15 rfl (lv_at hl 1 rfl) ?_
      refine lv_icmp_gt (tgt := 100) hx hb dX11_layParts_16 (by decide) (fun c3 => ?_) (fun c3 => ?_)
      · have hf := it_t hf c3
        have e9 := Option.some.inj hf
        rw [hQ]
        exact W.vret hx hb hr (fun t ht hW => ⟨⟨sMo, rfl, e9, ⟨by rw [ht]; exact hP, va_K.moved hW.alike hK, hD⟩⟩, hS.F ht⟩) hS.2.2 dX11_layParts_100
      · have hf := it_f hf c3
        refine lv_aload_n hx hb dX11_layParts_19 rfl (lv_at hl 0 rfl) ?_
        refine lv_aload_n hx hb dX11_layParts_20 rfl (lv_at hl 0 rfl) ?_
        refine va_get (D := D) (ci := 10) (v := .long (sMo.2.1 31)) (C := RX11) (T := TX11) (N := 41) hx hb hts iX11 hown hK hP 0 o_Mo rfl 31 (by decide) (htl _ (mB53 _ (List.mem_of_getElem? (i := 10) rfl))) (fun _ h9 => h9) rfl dX11_layParts_21 ?_
        refine lv_iload hx hb dX11_layParts_24 (lv_at hl 3 rfl) ?_
        refine lv_i2l (v := x4.toInt64) hx hb dX11_layParts_26 rfl ?_
        refine lv_lmul hx hb dX11_layParts_27 ?_
        refine lv_aload_n hx hb dX11_layParts_28 rfl (lv_at hl 0 rfl) ?_
        refine va_get (D := D) (ci := 10) (v := .ref (hMo 15)) (C := RX11) (T := TX11) (N := 41) hx hb hts iX11 hown hK hP 0 o_Mo rfl 15 (by decide) (htl _ (mB6 _ (List.mem_of_getElem? (i := 3) rfl))) (fun _ h9 => h9) rfl dX11_layParts_29 ?_
        refine lv_iconst (v := (0 : Int32)) hx hb dX11_layParts_32 (by decide) ?_
        obtain ⟨g4, hf⟩ := gd_s hf
        refine va_iald hx hb hK hP 3 0 (f := sMo.2.2.1 15) a_Mo_15 rfl (vpb_in g4) dX11_layParts_33 ?_
        refine lv_topi (fun v5 ev5 => ?_)
        have hf := lz_s hf v5 ev5
        refine lv_i2l (v := v5.toInt64) hx hb dX11_layParts_34 rfl ?_
        refine lv_aload_n hx hb dX11_layParts_35 rfl (lv_at hl 0 rfl) ?_
        refine va_get (D := D) (ci := 10) (v := .long (sMo.2.1 32)) (C := RX11) (T := TX11) (N := 41) hx hb hts iX11 hown hK hP 0 o_Mo rfl 32 (by decide) (htl _ (mB53 _ (List.mem_of_getElem? (i := 9) rfl))) (fun _ h9 => h9) rfl dX11_layParts_36 ?_
        refine lv_lmul hx hb dX11_layParts_39 ?_
        refine lv_ladd hx hb dX11_layParts_40 ?_
        refine lv_topl (fun v6 ev6 => ?_)
        have hf := lz_s hf v6 ev6
        refine va_put (D := D) (ci := 10) (v := .long v6) (ty := .long) (C := RX11) (T := TX11) (N := 41) hx hb hts iX11 tyX11 tyX11_ok nmX11 hown hK hP hD hS 0 o_Mo rfl 31 (by decide) (htl _ (mB53 _ (List.mem_of_getElem? (i := 10) rfl))) (fun _ h9 => h9) rfl (by decide +kernel) rfl rfl (Nat.le_of_ble_eq_true rfl) dX11_layParts_41 (fun H locs hP hD hS => ?_)
        have hP := cvP si_Mo_31 hP
        have hD := cvD si_Mo_31 hD
        obtain ⟨s7, es7⟩ : ∃ z, z = sL sMo 31 v6 := ⟨_, rfl⟩
        have hP : va_P D vwCl (wMo K hMo s7) H := by rw [es7]; exact hP
        have hD : va_D A (wMo K hMo s7) := by rw [es7]; exact hD
        have hf := lz_s hf s7 es7
        refine lv_aload_n hx hb dX11_layParts_44 rfl (lv_at hl 0 rfl) ?_
        refine lv_dup hx hb dX11_layParts_45 rfl ?_
        refine va_get (D := D) (ci := 10) (v := .long (s7.2.1 32)) (C := RX11) (T := TX11) (N := 41) hx hb hts iX11 hown hK hP 0 o_Mo rfl 32 (by decide) (htl _ (mB53 _ (List.mem_of_getElem? (i := 9) rfl))) (fun _ h9 => h9) rfl dX11_layParts_46 ?_
        refine lv_iload hx hb dX11_layParts_49 (lv_at hl 3 rfl) ?_
        refine lv_i2l (v := x4.toInt64) hx hb dX11_layParts_51 rfl ?_
        refine lv_lmul hx hb dX11_layParts_52 ?_
        refine lv_topl (fun v8 ev8 => ?_)
        have hf := lz_s hf v8 ev8
        refine va_put (D := D) (ci := 10) (v := .long v8) (ty := .long) (C := RX11) (T := TX11) (N := 41) hx hb hts iX11 tyX11 tyX11_ok nmX11 hown hK hP hD hS 0 o_Mo rfl 32 (by decide) (htl _ (mB53 _ (List.mem_of_getElem? (i := 9) rfl))) (fun _ h9 => h9) rfl (by decide +kernel) rfl rfl (Nat.le_of_ble_eq_true rfl) dX11_layParts_53 (fun H locs hP hD hS => ?_)
        have hP := cvP si_Mo_32 hP
        have hD := cvD si_Mo_32 hD
        obtain ⟨s9, es9⟩ : ∃ z, z = sL s7 32 v8 := ⟨_, rfl⟩
        have hP : va_P D vwCl (wMo K hMo s9) H := by rw [es9]; exact hP
        have hD : va_D A (wMo K hMo s9) := by rw [es9]; exact hD
        have hf := lz_s hf s9 es9
        refine lv_aload_n hx hb dX11_layParts_56 rfl (lv_at hl 0 rfl) ?_
        refine va_get (D := D) (ci := 10) (v := .long (s9.2.1 32)) (C := RX11) (T := TX11) (N := 41) hx hb hts iX11 hown hK hP 0 o_Mo rfl 32 (by decide) (htl _ (mB53 _ (List.mem_of_getElem? (i := 9) rfl))) (fun _ h9 => h9) rfl dX11_layParts_57 ?_
        refine lv_aload_n hx hb dX11_layParts_60 rfl (lv_at hl 0 rfl) ?_
        refine va_get (D := D) (ci := 10) (v := .long (s9.2.1 31)) (C := RX11) (T := TX11) (N := 41) hx hb hts iX11 hown hK hP 0 o_Mo rfl 31 (by decide) (htl _ (mB53 _ (List.mem_of_getElem? (i := 10) rfl))) (fun _ h9 => h9) rfl dX11_layParts_61 ?_
        obtain ⟨o10, go10, hf⟩ := bd_s hf
        refine ro_Sl (As := [.long (s9.2.1 32), .long (s9.2.1 31)]) (rest := []) ⟨hx, hb, hml, hown, hts⟩ (c_X11_dividing l D K F (s9.2.1 32) (s9.2.1 31) o10 go10) (va_cwS 2 hts (gcS_X11_dividing (mB46 _ (List.mem_of_getElem? (i := 4) rfl))) rfl rfl rfl hdS_X11_dividing ⟨Nat.le_of_ble_eq_true rfl, Nat.le_of_ble_eq_true rfl⟩) hK hP hS va_Pnil rfl hl.1 rfl (Nat.le_of_ble_eq_true rfl) dX11_layParts_64 ⟨Nat.zero_le _, Nat.zero_le _⟩ (fun H locs hP hS => ?_)
        refine lv_lstore (lv' := [(5, .long o10), (0, .ref (hMo 99)), (2, .int p2), (3, .int p3), (4, .int x4)]) hx hb dX11_layParts_67 hl (by decide) rfl (fun ls hl => ?_)
        refine lv_aload_n hx hb dX11_layParts_69 rfl (lv_at hl 1 rfl) ?_
        refine lv_dup hx hb dX11_layParts_70 rfl ?_
        refine va_get (D := D) (ci := 10) (v := .long (s9.2.1 31)) (C := RX11) (T := TX11) (N := 41) hx hb hts iX11 hown hK hP 0 o_Mo rfl 31 (by decide) (htl _ (mB53 _ (List.mem_of_getElem? (i := 10) rfl))) (fun _ h9 => h9) rfl dX11_layParts_71 ?_
        refine lv_lload hx hb dX11_layParts_74 (lv_at hl 0 rfl) ?_
        obtain ⟨g11, hf⟩ := gd_s hf
        refine lv_ldiv hx hb dX11_layParts_76 (nzl_s g11) ?_
        refine va_put (D := D) (ci := 10) (v := .long ((s9.2.1 31) / o10)) (ty := .long) (C := RX11) (T := TX11) (N := 41) hx hb hts iX11 tyX11 tyX11_ok nmX11 hown hK hP hD hS 0 o_Mo rfl 31 (by decide) (htl _ (mB53 _ (List.mem_of_getElem? (i := 10) rfl))) (fun _ h9 => h9) rfl (by decide +kernel) rfl rfl (Nat.le_of_ble_eq_true rfl) dX11_layParts_77 (fun H locs hP hD hS => ?_)
        have hP := cvP si_Mo_31 hP
        have hD := cvD si_Mo_31 hD
        obtain ⟨s12, es12⟩ : ∃ z, z = sL s9 31 ((s9.2.1 31) / o10) := ⟨_, rfl⟩
        have hP : va_P D vwCl (wMo K hMo s12) H := by rw [es12]; exact hP
        have hD : va_D A (wMo K hMo s12) := by rw [es12]; exact hD
        have hf := lz_s hf s12 es12
        refine lv_aload_n hx hb dX11_layParts_80 rfl (lv_at hl 1 rfl) ?_
        refine lv_dup hx hb dX11_layParts_81 rfl ?_
        refine va_get (D := D) (ci := 10) (v := .long (s12.2.1 32)) (C := RX11) (T := TX11) (N := 41) hx hb hts iX11 hown hK hP 0 o_Mo rfl 32 (by decide) (htl _ (mB53 _ (List.mem_of_getElem? (i := 9) rfl))) (fun _ h9 => h9) rfl dX11_layParts_82 ?_
        refine lv_lload hx hb dX11_layParts_85 (lv_at hl 0 rfl) ?_
        obtain ⟨g13, hf⟩ := gd_s hf
        refine lv_ldiv hx hb dX11_layParts_87 (nzl_s g13) ?_
        refine va_put (D := D) (ci := 10) (v := .long ((s12.2.1 32) / o10)) (ty := .long) (C := RX11) (T := TX11) (N := 41) hx hb hts iX11 tyX11 tyX11_ok nmX11 hown hK hP hD hS 0 o_Mo rfl 32 (by decide) (htl _ (mB53 _ (List.mem_of_getElem? (i := 9) rfl))) (fun _ h9 => h9) rfl (by decide +kernel) rfl rfl (Nat.le_of_ble_eq_true rfl) dX11_layParts_88 (fun H locs hP hD hS => ?_)
        have hP := cvP si_Mo_32 hP
        have hD := cvD si_Mo_32 hD
        obtain ⟨s14, es14⟩ : ∃ z, z = sL s12 32 ((s12.2.1 32) / o10) := ⟨_, rfl⟩
        have hP : va_P D vwCl (wMo K hMo s14) H := by rw [es14]; exact hP
        have hD : va_D A (wMo K hMo s14) := by rw [es14]; exact hD
        have hf := lz_s hf s14 es14
        refine lv_iload hx hb dX11_layParts_91 (lv_at hl 4 rfl) ?_
        refine lv_iload_n hx hb dX11_layParts_93 rfl (lv_at hl 3 rfl) ?_
        refine lv_iadd hx hb dX11_layParts_94 ?_
        refine lv_istore (lv' := [(4, .int (x4 + p3)), (5, .long o10), (0, .ref (hMo 99)), (2, .int p2), (3, .int p3)]) hx hb dX11_layParts_95 hl (by decide) rfl (fun ls hl => ?_)
        refine lv_goto (tgt := 13) hx hb dX11_layParts_97 (by decide) ?_
        exact ih (x4 + p3) s14 H locs ls hf hP hD hS (lv_sub hl [2, 3, 4, 0] rfl)
  have hen : entryFrame m args 7 = entryFrame m (([.ref (hMo 99), .int p1, .int p2, .int p3] : List Value).toArray) 7 := by rw [hargs]
  have hl := lv_entry ([.ref (hMo 99), .int p1, .int p2, .int p3]) (n := 7) (Nat.le_of_ble_eq_true rfl)
  rw [hen, lg_entry_eq]
  generalize (lg_sl ([.ref (hMo 99), .int p1, .int p2, .int p3]) ++ List.replicate (7 - (lg_sl ([.ref (hMo 99), .int p1, .int p2, .int p3])).length) Slot.unset).toArray = ls at hl ⊢
  have hl : lv_has ls 7 [(0, .ref (hMo 99)), (1, .int p1), (2, .int p2), (3, .int p3)] := hl
  unfold f_X11_layParts at hf
  obtain ⟨H, hHe⟩ : ∃ z, z = s.heap := ⟨_, rfl⟩
  obtain ⟨locs, hLe⟩ : ∃ z : List Loc, z = [] := ⟨_, rfl⟩
  rw [← hLe]
  have hS : va_S A s.heap H locs := by rw [hHe, hLe]; exact hS
  have hP : va_P D vwCl (wMo K hMo sMo) H := by rw [hHe]; exact hP
  have hgo : W p l e (headSpec wz_X11_layParts r_X11_layParts).room s m args below meth c H locs 0 0 Q (F0 m 0 ls []) := by
    refine lv_aload_n hx hb dX11_layParts_0 rfl (lv_at hl 0 rfl) ?_
    refine lv_lconst (v := (0 : Int64)) hx hb dX11_layParts_1 (by decide) ?_
    refine va_put (D := D) (ci := 10) (v := .long (0 : Int64)) (ty := .long) (C := RX11) (T := TX11) (N := 41) hx hb hts iX11 tyX11 tyX11_ok nmX11 hown hK hP hD hS 0 o_Mo rfl 31 (by decide) (htl _ (mB53 _ (List.mem_of_getElem? (i := 10) rfl))) (fun _ h9 => h9) rfl (by decide +kernel) rfl rfl (Nat.le_of_ble_eq_true rfl) dX11_layParts_2 (fun H locs hP hD hS => ?_)
    have hP := cvP si_Mo_31 hP
    have hD := cvD si_Mo_31 hD
    obtain ⟨s1, es1⟩ : ∃ z, z = sL sMo 31 (0 : Int64) := ⟨_, rfl⟩
    have hP : va_P D vwCl (wMo K hMo s1) H := by rw [es1]; exact hP
    have hD : va_D A (wMo K hMo s1) := by rw [es1]; exact hD
    have hf := lz_s hf s1 es1
    refine lv_aload_n hx hb dX11_layParts_5 rfl (lv_at hl 0 rfl) ?_
    refine lv_lconst (v := (1 : Int64)) hx hb dX11_layParts_6 (by decide) ?_
    refine va_put (D := D) (ci := 10) (v := .long (1 : Int64)) (ty := .long) (C := RX11) (T := TX11) (N := 41) hx hb hts iX11 tyX11 tyX11_ok nmX11 hown hK hP hD hS 0 o_Mo rfl 32 (by decide) (htl _ (mB53 _ (List.mem_of_getElem? (i := 9) rfl))) (fun _ h9 => h9) rfl (by decide +kernel) rfl rfl (Nat.le_of_ble_eq_true rfl) dX11_layParts_7 (fun H locs hP hD hS => ?_)
    have hP := cvP si_Mo_32 hP
    have hD := cvD si_Mo_32 hD
    obtain ⟨s2, es2⟩ : ∃ z, z = sL s1 32 (1 : Int64) := ⟨_, rfl⟩
    have hP : va_P D vwCl (wMo K hMo s2) H := by rw [es2]; exact hP
    have hD : va_D A (wMo K hMo s2) := by rw [es2]; exact hD
    have hf := lz_s hf s2 es2
    refine lv_iload_n hx hb dX11_layParts_10 rfl (lv_at hl 1 rfl) ?_
    refine lv_istore (lv' := [(4, .int p1), (0, .ref (hMo 99)), (1, .int p1), (2, .int p2), (3, .int p3)]) hx hb dX11_layParts_11 hl (by decide) rfl (fun ls hl => ?_)
    exact w13 F p1 s2 H locs ls hf hP hD hS (lv_sub hl [1, 3, 4, 0] rfl)
  rw [hHe] at hgo
  exact hgo

theorem gcV_X11_layParts {T0 : Cond} {own : String} {i : Nat} (h : Cond.methodLink own i yX11_layParts ∈ wsL_law) : GoodIn (T0 :: wsL_law) (wsV own i RX11 yX11_layParts wz_X11_layParts) := gV h (mB53 _ (List.mem_of_getElem? (i := 16) rfl)) (mB53 _ (List.mem_of_getElem? (i := 17) rfl)) (mB1 _ (List.mem_of_getElem? (i := 5) rfl)) (mB53 _ (List.mem_of_getElem? (i := 18) rfl))
theorem hdV_X11_layParts : yX11_layParts.cls = RX11 ∧ yX11_layParts.cls ≠ "java/lang/invoke/MethodHandle" ∧ yX11_layParts.cls ≠ "java/lang/invoke/VarHandle" ∧ (parseMethodDescriptor yX11_layParts.desc).map (fun d => d.parameters.length) = some 3 := by decide +kernel
def wz_X11_layFar : List Cond := .code yX11_layFar cX11_layFar 3 none :: wsL_law
abbrev r_X11_layFar : Room := { frames := 2, cells := 0, slots := 0, locals := 55 }
set_option maxHeartbeats 4000000 in
set_option maxRecDepth 100000 in
theorem c_X11_layFar (l : Launch) (D : va_G) (K : Nat → ClassId) (F : Nat) (hMo : Nat → Nat) (sz : Nat) (sMo : MS) (p1 : Int32) (p2 : Int32) (res : MS) (hf : f_X11_layFar F p1 p2 sMo = some res) : Met l yX11_layFar wz_X11_layFar r_X11_layFar (va_Pc [.ref (hMo 99), .int p1, .int p2] (PW D K (wMo K hMo sMo) sz)) (va_Qv (fun u => u = res) (fun u t => BW D K (va_A (wMo K hMo sMo) sz) (wMo K hMo u) t) (va_A (wMo K hMo sMo) sz)) 0 0 (va_A (wMo K hMo sMo) sz) := by
  refine Met.ofW (cc := cX11_layFar) (maxL := 3) (ret := none) (by decide) rfl ?_
  intro p e s m args below meth c s₁ B hml hv
  obtain ⟨hargs, hsz, hP, hK, hD0⟩ := hv
  have hx := B.exec
  have hb := B.bytes
  have hr := B.returns
  have hts := atoms_spec (ws := wz_X11_layFar) B.pre
  have htl : ∀ w ∈ wsL_law, w.before args s = true := fun w h => hts w (List.mem_cons_of_mem _ h)
  have hown : s.vm.findClass RX11 = some m.cls := findClass_of_methodNamed B.named
  have hlocks := B.notSynchronized
  subst hsz
  have hD := hD0.self (sz := s.heap.size)
  generalize hAe : va_A (wMo K hMo sMo) s.heap.size = A at hD ⊢
  have hA : ∀ q : Nat, s.heap.size ≤ q → A q := fun q h => by rw [← hAe]; exact Or.inr h
  have hS : va_S A s.heap s.heap [] := va_S.rf
  suffices hgo : ∀ Q : State → Prop, Q = MQ below (va_Qv (fun u => u = res) (fun u t => BW D K A (wMo K hMo u) t) A) args s 0 0 A → W p l e (headSpec wz_X11_layFar r_X11_layFar).room s m args below meth c s.heap [] 0 0 Q (entryFrame m args 3) from hgo _ rfl
  intro Q hQ
  have w25 : ∀ (y1 : Int32), ∀ (y2 : Int32), ∀ (sMo : MS), ∀ (H : Heap) (locs : List Loc) (ls : Array Slot), f_X11_layFar_25 F p1 p2 y1 y2 sMo = some res → va_P D vwCl (wMo K hMo sMo) H → va_D A (wMo K hMo sMo) → va_S A s.heap H locs → lv_has ls 3 [] → W p l e (headSpec wz_X11_layFar r_X11_layFar).room s m args below meth c H locs 0 0 Q (F0 m 25 ls [.int y2, .int y1, .ref (hMo 99)]) := by
    intro y1 y2 sMo H locs ls hf hP hD hS hl
    unfold f_X11_layFar_25 at hf
    refine lv_iconst (v := (2 : Int32)) hx hb dX11_layFar_25 (by decide) ?_
    obtain ⟨o3, go3, hf⟩ := bd_s hf
    refine rs_Vv (As := [.int y1, .int y2, .int (2 : Int32)]) (rest := []) ⟨hx, hb, hml, hown, hts⟩ (c_X11_layParts l D K F hMo H.size sMo y1 y2 (2 : Int32) o3 go3) (cwV 3 hts (gcV_X11_layParts (mB53 _ (List.mem_of_getElem? (i := 15) rfl))) rfl rfl rfl hdV_X11_layParts ⟨Nat.le_of_ble_eq_true rfl, Nat.le_of_ble_eq_true rfl⟩) hK hP hD hS hA (va_recv hK hP (ci := 10) (q0 := 0) rfl o_Mo) rfl hl.1 rfl (Nat.le_of_ble_eq_true rfl) dX11_layFar_26 ⟨Nat.zero_le _, Nat.zero_le _⟩ (fun H locs hP hD hS => ?_)
    have hP : va_P D vwCl (wMo K hMo o3) H := hP
    have hD : va_D A (wMo K hMo o3) := hD
    have e9 := Option.some.inj hf
    rw [hQ]
    exact W.vret hx hb hr (fun t ht hW => ⟨⟨o3, rfl, e9, ⟨by rw [ht]; exact hP, va_K.moved hW.alike hK, hD⟩⟩, hS.F ht⟩) hS.2.2 dX11_layFar_29
  have w10 : ∀ (y1 : Int32), ∀ (sMo : MS), ∀ (H : Heap) (locs : List Loc) (ls : Array Slot), f_X11_layFar_10 F p1 p2 y1 sMo = some res → va_P D vwCl (wMo K hMo sMo) H → va_D A (wMo K hMo sMo) → va_S A s.heap H locs → lv_has ls 3 [(1, .int p1), (2, .int p2)] → W p l e (headSpec wz_X11_layFar r_X11_layFar).room s m args below meth c H locs 0 0 Q (F0 m 10 ls [.int y1, .ref (hMo 99)]) := by
    intro y1 sMo H locs ls hf hP hD hS hl
    unfold f_X11_layFar_10 at hf
    refine lv_iload_n hx hb dX11_layFar_10 rfl (lv_at hl 1 rfl) ?_
    refine lv_if_eq (tgt := 20) hx hb dX11_layFar_11 (by decide) (fun c2 => ?_) (fun c2 => ?_)
    · have hf := it_t hf c2
      refine lv_iconst (v := (2 : Int32)) hx hb dX11_layFar_20 (by decide) ?_
      refine lv_iload_n hx hb dX11_layFar_21 rfl (lv_at hl 0 rfl) ?_
      refine lv_imul hx hb dX11_layFar_22 ?_
      refine lv_iconst (v := (1 : Int32)) hx hb dX11_layFar_23 (by decide) ?_
      refine lv_isub hx hb dX11_layFar_24 ?_
      exact w25 y1 (((2 : Int32) * p1) - (1 : Int32)) sMo H locs ls hf hP hD hS (lv_sub hl [] rfl)
    · have hf := it_f hf c2
      refine lv_iconst (v := (2 : Int32)) hx hb dX11_layFar_14 (by decide) ?_
      refine lv_iload_n hx hb dX11_layFar_15 rfl (lv_at hl 0 rfl) ?_
      refine lv_imul hx hb dX11_layFar_16 ?_
      refine lv_goto (tgt := 25) hx hb dX11_layFar_17 (by decide) ?_
      exact w25 y1 ((2 : Int32) * p1) sMo H locs ls hf hP hD hS (lv_sub hl [] rfl)
  have hen : entryFrame m args 3 = entryFrame m (([.ref (hMo 99), .int p1, .int p2] : List Value).toArray) 3 := by rw [hargs]
  have hl := lv_entry ([.ref (hMo 99), .int p1, .int p2]) (n := 3) (Nat.le_of_ble_eq_true rfl)
  rw [hen, lg_entry_eq]
  generalize (lg_sl ([.ref (hMo 99), .int p1, .int p2]) ++ List.replicate (3 - (lg_sl ([.ref (hMo 99), .int p1, .int p2])).length) Slot.unset).toArray = ls at hl ⊢
  have hl : lv_has ls 3 [(0, .ref (hMo 99)), (1, .int p1), (2, .int p2)] := hl
  unfold f_X11_layFar at hf
  obtain ⟨H, hHe⟩ : ∃ z, z = s.heap := ⟨_, rfl⟩
  obtain ⟨locs, hLe⟩ : ∃ z : List Loc, z = [] := ⟨_, rfl⟩
  rw [← hLe]
  have hS : va_S A s.heap H locs := by rw [hHe, hLe]; exact hS
  have hP : va_P D vwCl (wMo K hMo sMo) H := by rw [hHe]; exact hP
  have hgo : W p l e (headSpec wz_X11_layFar r_X11_layFar).room s m args below meth c H locs 0 0 Q (F0 m 0 ls []) := by
    refine lv_aload_n hx hb dX11_layFar_0 rfl (lv_at hl 0 rfl) ?_
    refine lv_iload_n hx hb dX11_layFar_1 rfl (lv_at hl 2 rfl) ?_
    refine lv_if_eq (tgt := 9) hx hb dX11_layFar_2 (by decide) (fun c1 => ?_) (fun c1 => ?_)
    · have hf := it_t hf c1
      refine lv_iconst (v := (1 : Int32)) hx hb dX11_layFar_9 (by decide) ?_
      exact w10 (1 : Int32) sMo H locs ls hf hP hD hS (lv_sub hl [1, 2] rfl)
    · have hf := it_f hf c1
      refine lv_iconst (v := (2 : Int32)) hx hb dX11_layFar_5 (by decide) ?_
      refine lv_goto (tgt := 10) hx hb dX11_layFar_6 (by decide) ?_
      exact w10 (2 : Int32) sMo H locs ls hf hP hD hS (lv_sub hl [1, 2] rfl)
  rw [hHe] at hgo
  exact hgo

theorem gcV_X11_layFar {T0 : Cond} {own : String} {i : Nat} (h : Cond.methodLink own i yX11_layFar ∈ wsL_law) : GoodIn (T0 :: wsL_law) (wsV own i RX11 yX11_layFar wz_X11_layFar) := gV h (mB53 _ (List.mem_of_getElem? (i := 12) rfl)) (mB53 _ (List.mem_of_getElem? (i := 13) rfl)) (mB1 _ (List.mem_of_getElem? (i := 5) rfl)) (mB53 _ (List.mem_of_getElem? (i := 14) rfl))
theorem hdV_X11_layFar : yX11_layFar.cls = RX11 ∧ yX11_layFar.cls ≠ "java/lang/invoke/MethodHandle" ∧ yX11_layFar.cls ≠ "java/lang/invoke/VarHandle" ∧ (parseMethodDescriptor yX11_layFar.desc).map (fun d => d.parameters.length) = some 2 := by decide +kernel
def wz_X11_far : List Cond := .code yX11_far cX11_far 4 (some .long) :: wsL_law
abbrev r_X11_far : Room := { frames := 3, cells := 0, slots := 0, locals := 77 }
set_option maxHeartbeats 4000000 in
set_option maxRecDepth 100000 in
theorem c_X11_far (l : Launch) (D : va_G) (K : Nat → ClassId) (F : Nat) (hMo : Nat → Nat) (sz : Nat) (sMo : MS) (p1 : Int32) (p2 : Int32) (p3 : Int32) (res : Int64 × MS) (hf : f_X11_far F p1 p2 p3 sMo = some res) : Met l yX11_far wz_X11_far r_X11_far (va_Pc [.ref (hMo 99), .int p1, .int p2, .int p3] (PW D K (wMo K hMo sMo) sz)) (va_Ql (fun r u => r = res.1 ∧ u = res.2) (fun u t => BW D K (va_A (wMo K hMo sMo) sz) (wMo K hMo u) t) (va_A (wMo K hMo sMo) sz)) 0 0 (va_A (wMo K hMo sMo) sz) := by
  refine Met.ofW (cc := cX11_far) (maxL := 4) (ret := (some .long)) (by decide) rfl ?_
  intro p e s m args below meth c s₁ B hml hv
  obtain ⟨hargs, hsz, hP, hK, hD0⟩ := hv
  have hx := B.exec
  have hb := B.bytes
  have hr := B.returns
  have hts := atoms_spec (ws := wz_X11_far) B.pre
  have htl : ∀ w ∈ wsL_law, w.before args s = true := fun w h => hts w (List.mem_cons_of_mem _ h)
  have hown : s.vm.findClass RX11 = some m.cls := findClass_of_methodNamed B.named
  have hlocks := B.notSynchronized
  subst hsz
  have hD := hD0.self (sz := s.heap.size)
  generalize hAe : va_A (wMo K hMo sMo) s.heap.size = A at hD ⊢
  have hA : ∀ q : Nat, s.heap.size ≤ q → A q := fun q h => by rw [← hAe]; exact Or.inr h
  have hS : va_S A s.heap s.heap [] := va_S.rf
  have iX11 : ∀ w ∈ wsX110, w ∈ wz_X11_far := fun w h => List.mem_cons_of_mem _ (inlX11 w h)
  suffices hgo : ∀ Q : State → Prop, Q = MQ below (va_Ql (fun r u => r = res.1 ∧ u = res.2) (fun u t => BW D K A (wMo K hMo u) t) A) args s 0 0 A → W p l e (headSpec wz_X11_far r_X11_far).room s m args below meth c s.heap [] 0 0 Q (entryFrame m args 4) from hgo _ rfl
  intro Q hQ
  have hen : entryFrame m args 4 = entryFrame m (([.ref (hMo 99), .int p1, .int p2, .int p3] : List Value).toArray) 4 := by rw [hargs]
  have hl := lv_entry ([.ref (hMo 99), .int p1, .int p2, .int p3]) (n := 4) (Nat.le_of_ble_eq_true rfl)
  rw [hen, lg_entry_eq]
  generalize (lg_sl ([.ref (hMo 99), .int p1, .int p2, .int p3]) ++ List.replicate (4 - (lg_sl ([.ref (hMo 99), .int p1, .int p2, .int p3])).length) Slot.unset).toArray = ls at hl ⊢
  have hl : lv_has ls 4 [(0, .ref (hMo 99)), (1, .int p1), (2, .int p2), (3, .int p3)] := hl
  unfold f_X11_far at hf
  obtain ⟨H, hHe⟩ : ∃ z, z = s.heap := ⟨_, rfl⟩
  obtain ⟨locs, hLe⟩ : ∃ z : List Loc, z = [] := ⟨_, rfl⟩
  rw [← hLe]
  have hS : va_S A s.heap H locs := by rw [hHe, hLe]; exact hS
  have hP : va_P D vwCl (wMo K hMo sMo) H := by rw [hHe]; exact hP
  have hgo : W p l e (headSpec wz_X11_far r_X11_far).room s m args below meth c H locs 0 0 Q (F0 m 0 ls []) := by
    refine lv_aload_n hx hb dX11_far_0 rfl (lv_at hl 0 rfl) ?_
    obtain ⟨o1, go1, hf⟩ := bd_s hf
    refine rs_Vv (As := []) (rest := []) ⟨hx, hb, hml, hown, hts⟩ (c_X11_good l D K F hMo H.size sMo o1 go1) (cwV 0 hts (gcV_X11_good (mB18 _ (List.mem_of_getElem? (i := 7) rfl))) rfl rfl rfl hdV_X11_good ⟨Nat.le_of_ble_eq_true rfl, Nat.le_of_ble_eq_true rfl⟩) hK hP hD hS hA (va_recv hK hP (ci := 10) (q0 := 0) rfl o_Mo) rfl hl.1 rfl (Nat.le_of_ble_eq_true rfl) dX11_far_1 ⟨Nat.zero_le _, Nat.zero_le _⟩ (fun H locs hP hD hS => ?_)
    have hP : va_P D vwCl (wMo K hMo o1) H := hP
    have hD : va_D A (wMo K hMo o1) := hD
    refine lv_aload_n hx hb dX11_far_4 rfl (lv_at hl 0 rfl) ?_
    refine va_get (D := D) (ci := 10) (v := .int (o1.1 14)) (C := RX11) (T := TX11) (N := 41) hx hb hts iX11 hown hK hP 0 o_Mo rfl 14 (by decide) (htl _ (mB18 _ (List.mem_of_getElem? (i := 4) rfl))) (fun _ h9 => h9) rfl dX11_far_5 ?_
    refine lv_if_ne (tgt := 18) hx hb dX11_far_8 (by decide) (fun c2 => ?_) (fun c2 => ?_)
    · have hf := it_f hf c2
      refine lv_iload_n hx hb dX11_far_18 rfl (lv_at hl 1 rfl) ?_
      refine lv_iconst (v := (1 : Int32)) hx hb dX11_far_19 (by decide) ?_
      refine lv_bipush (v := (12 : Int32)) hx hb dX11_far_20 (by decide) ?_
      obtain ⟨o3, go3, hf⟩ := bd_s hf
      refine ro_Si (As := [.int p1, .int (1 : Int32), .int (12 : Int32)]) (rest := []) ⟨hx, hb, hml, hown, hts⟩ (c_X11_in l D K F p1 (1 : Int32) (12 : Int32) o3 go3) (va_cwS 3 hts (gcS_X11_in (mB18 _ (List.mem_of_getElem? (i := 12) rfl))) rfl rfl rfl hdS_X11_in ⟨Nat.le_of_ble_eq_true rfl, Nat.le_of_ble_eq_true rfl⟩) hK hP hS va_Pnil rfl hl.1 rfl (Nat.le_of_ble_eq_true rfl) dX11_far_22 ⟨Nat.zero_le _, Nat.zero_le _⟩ (fun H locs hP hS => ?_)
      refine lv_if_ne (tgt := 35) hx hb dX11_far_25 (by decide) (fun c4 => ?_) (fun c4 => ?_)
      · have hf := it_f hf c4
        refine lv_aload_n hx hb dX11_far_35 rfl (lv_at hl 0 rfl) ?_
        refine lv_iload_n hx hb dX11_far_36 rfl (lv_at hl 1 rfl) ?_
        refine lv_iload_n hx hb dX11_far_37 rfl (lv_at hl 2 rfl) ?_
        obtain ⟨o5, go5, hf⟩ := bd_s hf
        refine rs_Vv (As := [.int p1, .int p2]) (rest := []) ⟨hx, hb, hml, hown, hts⟩ (c_X11_layFar l D K F hMo H.size o1 p1 p2 o5 go5) (cwV 2 hts (gcV_X11_layFar (mB53 _ (List.mem_of_getElem? (i := 11) rfl))) rfl rfl rfl hdV_X11_layFar ⟨Nat.le_of_ble_eq_true rfl, Nat.le_of_ble_eq_true rfl⟩) hK hP hD hS hA (va_recv hK hP (ci := 10) (q0 := 0) rfl o_Mo) rfl hl.1 rfl (Nat.le_of_ble_eq_true rfl) dX11_far_38 ⟨Nat.zero_le _, Nat.zero_le _⟩ (fun H locs hP hD hS => ?_)
        have hP : va_P D vwCl (wMo K hMo o5) H := hP
        have hD : va_D A (wMo K hMo o5) := hD
        refine lv_iload_n hx hb dX11_far_41 rfl (lv_at hl 3 rfl) ?_
        refine lv_if_eq (tgt := 52) hx hb dX11_far_42 (by decide) (fun c6 => ?_) (fun c6 => ?_)
        · have hf := it_t hf c6
          refine lv_aload_n hx hb dX11_far_52 rfl (lv_at hl 0 rfl) ?_
          refine va_get (D := D) (ci := 10) (v := .long (o5.2.1 31)) (C := RX11) (T := TX11) (N := 41) hx hb hts iX11 hown hK hP 0 o_Mo rfl 31 (by decide) (htl _ (mB53 _ (List.mem_of_getElem? (i := 10) rfl))) (fun _ h9 => h9) rfl dX11_far_53 ?_
          have e9 := Option.some.inj hf
          rw [hQ]
          exact W.lret (v := (o5.2.1 31)) hx hb hr (fun t ht hW => ⟨⟨(o5.2.1 31), o5, rfl, ⟨pr1 e9, pr2 e9⟩, ⟨by rw [ht]; exact hP, va_K.moved hW.alike hK, hD⟩⟩, hS.F ht⟩) hS.2.2 dX11_far_56
        · have hf := it_f hf c6
          refine lv_aload_n hx hb dX11_far_45 rfl (lv_at hl 0 rfl) ?_
          refine va_get (D := D) (ci := 10) (v := .long (o5.2.1 32)) (C := RX11) (T := TX11) (N := 41) hx hb hts iX11 hown hK hP 0 o_Mo rfl 32 (by decide) (htl _ (mB53 _ (List.mem_of_getElem? (i := 9) rfl))) (fun _ h9 => h9) rfl dX11_far_46 ?_
          refine lv_goto (tgt := 56) hx hb dX11_far_49 (by decide) ?_
          have e9 := Option.some.inj hf
          rw [hQ]
          exact W.lret (v := (o5.2.1 32)) hx hb hr (fun t ht hW => ⟨⟨(o5.2.1 32), o5, rfl, ⟨pr1 e9, pr2 e9⟩, ⟨by rw [ht]; exact hP, va_K.moved hW.alike hK, hD⟩⟩, hS.F ht⟩) hS.2.2 dX11_far_56
      · have hf := it_t hf c4
        refine lv_aload_n hx hb dX11_far_28 rfl (lv_at hl 0 rfl) ?_
        refine lv_iconst (v := (2 : Int32)) hx hb dX11_far_29 (by decide) ?_
        obtain ⟨o7, go7, hf⟩ := bd_s hf
        refine rs_Vi (As := [.int (2 : Int32)]) (rest := []) ⟨hx, hb, hml, hown, hts⟩ (c_X11_no l D K F hMo H.size o1 (2 : Int32) o7 go7) (cwV 1 hts (gcV_X11_no (mB18 _ (List.mem_of_getElem? (i := 15) rfl))) rfl rfl rfl hdV_X11_no ⟨Nat.le_of_ble_eq_true rfl, Nat.le_of_ble_eq_true rfl⟩) hK hP hD hS hA (va_recv hK hP (ci := 10) (q0 := 0) rfl o_Mo) rfl hl.1 rfl (Nat.le_of_ble_eq_true rfl) dX11_far_30 ⟨Nat.zero_le _, Nat.zero_le _⟩ (fun H locs hP hD hS => ?_)
        have hP : va_P D vwCl (wMo K hMo o7.2) H := hP
        have hD : va_D A (wMo K hMo o7.2) := hD
        refine lv_i2l (v := o7.1.toInt64) hx hb dX11_far_33 rfl ?_
        have e9 := Option.some.inj hf
        rw [hQ]
        exact W.lret (v := o7.1.toInt64) hx hb hr (fun t ht hW => ⟨⟨o7.1.toInt64, o7.2, rfl, ⟨pr1 e9, pr2 e9⟩, ⟨by rw [ht]; exact hP, va_K.moved hW.alike hK, hD⟩⟩, hS.F ht⟩) hS.2.2 dX11_far_34
    · have hf := it_t hf c2
      refine lv_aload_n hx hb dX11_far_11 rfl (lv_at hl 0 rfl) ?_
      refine lv_iconst (v := (1 : Int32)) hx hb dX11_far_12 (by decide) ?_
      obtain ⟨o8, go8, hf⟩ := bd_s hf
      refine rs_Vi (As := [.int (1 : Int32)]) (rest := []) ⟨hx, hb, hml, hown, hts⟩ (c_X11_no l D K F hMo H.size o1 (1 : Int32) o8 go8) (cwV 1 hts (gcV_X11_no (mB18 _ (List.mem_of_getElem? (i := 15) rfl))) rfl rfl rfl hdV_X11_no ⟨Nat.le_of_ble_eq_true rfl, Nat.le_of_ble_eq_true rfl⟩) hK hP hD hS hA (va_recv hK hP (ci := 10) (q0 := 0) rfl o_Mo) rfl hl.1 rfl (Nat.le_of_ble_eq_true rfl) dX11_far_13 ⟨Nat.zero_le _, Nat.zero_le _⟩ (fun H locs hP hD hS => ?_)
      have hP : va_P D vwCl (wMo K hMo o8.2) H := hP
      have hD : va_D A (wMo K hMo o8.2) := hD
      refine lv_i2l (v := o8.1.toInt64) hx hb dX11_far_16 rfl ?_
      have e9 := Option.some.inj hf
      rw [hQ]
      exact W.lret (v := o8.1.toInt64) hx hb hr (fun t ht hW => ⟨⟨o8.1.toInt64, o8.2, rfl, ⟨pr1 e9, pr2 e9⟩, ⟨by rw [ht]; exact hP, va_K.moved hW.alike hK, hD⟩⟩, hS.F ht⟩) hS.2.2 dX11_far_17
  rw [hHe] at hgo
  exact hgo

def wz_X11_loads : List Cond := .code yX11_loads cX11_loads 4 (some .int) :: wsL_law
abbrev r_X11_loads : Room := { frames := 3, cells := 0, slots := 0, locals := 77 }
set_option maxHeartbeats 4000000 in
set_option maxRecDepth 100000 in
theorem c_X11_loads (l : Launch) (D : va_G) (K : Nat → ClassId) (F : Nat) (hMo : Nat → Nat) (sz : Nat) (sMo : MS) (p1 : Int32) (p2 : Int32) (res : Int32 × MS) (hf : f_X11_loads F p1 p2 sMo = some res) : Met l yX11_loads wz_X11_loads r_X11_loads (va_Pc [.ref (hMo 99), .int p1, .int p2] (PW D K (wMo K hMo sMo) sz)) (va_Qi (fun r u => r = res.1 ∧ u = res.2) (fun u t => BW D K (va_A (wMo K hMo sMo) sz) (wMo K hMo u) t) (va_A (wMo K hMo sMo) sz)) 0 0 (va_A (wMo K hMo sMo) sz) := by
  refine Met.ofW (cc := cX11_loads) (maxL := 4) (ret := (some .int)) (by decide) rfl ?_
  intro p e s m args below meth c s₁ B hml hv
  obtain ⟨hargs, hsz, hP, hK, hD0⟩ := hv
  have hx := B.exec
  have hb := B.bytes
  have hr := B.returns
  have hts := atoms_spec (ws := wz_X11_loads) B.pre
  have htl : ∀ w ∈ wsL_law, w.before args s = true := fun w h => hts w (List.mem_cons_of_mem _ h)
  have hown : s.vm.findClass RX11 = some m.cls := findClass_of_methodNamed B.named
  have hlocks := B.notSynchronized
  subst hsz
  have hD := hD0.self (sz := s.heap.size)
  generalize hAe : va_A (wMo K hMo sMo) s.heap.size = A at hD ⊢
  have hA : ∀ q : Nat, s.heap.size ≤ q → A q := fun q h => by rw [← hAe]; exact Or.inr h
  have hS : va_S A s.heap s.heap [] := va_S.rf
  have iX11 : ∀ w ∈ wsX110, w ∈ wz_X11_loads := fun w h => List.mem_cons_of_mem _ (inlX11 w h)
  suffices hgo : ∀ Q : State → Prop, Q = MQ below (va_Qi (fun r u => r = res.1 ∧ u = res.2) (fun u t => BW D K A (wMo K hMo u) t) A) args s 0 0 A → W p l e (headSpec wz_X11_loads r_X11_loads).room s m args below meth c s.heap [] 0 0 Q (entryFrame m args 4) from hgo _ rfl
  intro Q hQ
  have w36 : ∀ (n : Nat), ∀ (x3 : Int32), ∀ (sMo : MS), ∀ (H : Heap) (locs : List Loc) (ls : Array Slot), f_X11_loads_36 F p1 p2 n x3 sMo = some res → va_P D vwCl (wMo K hMo sMo) H → va_D A (wMo K hMo sMo) → va_S A s.heap H locs → lv_has ls 4 [(0, .ref (hMo 99)), (1, .int p1), (2, .int p2), (3, .int x3)] → W p l e (headSpec wz_X11_loads r_X11_loads).room s m args below meth c H locs 0 0 Q (F0 m 36 ls []) := by
    intro n
    induction n with
    | zero =>
      intro x3 sMo H locs ls hf
      exact absurd (show none = some res from hf) (fun h => nomatch h)
    | succ n ih =>
      intro x3 sMo H locs ls hf hP hD hS hl
      rw [f_X11_loads_36] at hf
      refine lv_iload_n hx hb dX11_loads_36 rfl (lv_at hl 3 rfl) ?_
      refine lv_bipush (v := (12 : Int32)) hx hb dX11_loads_37 (by decide) ?_
      refine lv_icmp_gt (tgt := 71) hx hb dX11_loads_39 (by decide) (fun c7 => ?_) (fun c7 => ?_)
      · have hf := it_t hf c7
        refine lv_bipush (v := (-2 : Int32)) hx hb dX11_loads_71 (by decide) ?_
        have e9 := Option.some.inj hf
        rw [hQ]
        exact W.iret (v := (-2 : Int32)) hx hb hr (fun t ht hW => ⟨⟨(-2 : Int32), sMo, rfl, ⟨pr1 e9, pr2 e9⟩, ⟨by rw [ht]; exact hP, va_K.moved hW.alike hK, hD⟩⟩, hS.F ht⟩) hS.2.2 dX11_loads_73
      · have hf := it_f hf c7
        refine lv_aload_n hx hb dX11_loads_42 rfl (lv_at hl 0 rfl) ?_
        refine lv_iload_n hx hb dX11_loads_43 rfl (lv_at hl 3 rfl) ?_
        refine lv_iload_n hx hb dX11_loads_44 rfl (lv_at hl 2 rfl) ?_
        obtain ⟨o8, go8, hf⟩ := bd_s hf
        refine rs_Vv (As := [.int x3, .int p2]) (rest := []) ⟨hx, hb, hml, hown, hts⟩ (c_X11_layFar l D K F hMo H.size sMo x3 p2 o8 go8) (cwV 2 hts (gcV_X11_layFar (mB53 _ (List.mem_of_getElem? (i := 11) rfl))) rfl rfl rfl hdV_X11_layFar ⟨Nat.le_of_ble_eq_true rfl, Nat.le_of_ble_eq_true rfl⟩) hK hP hD hS hA (va_recv hK hP (ci := 10) (q0 := 0) rfl o_Mo) rfl hl.1 rfl (Nat.le_of_ble_eq_true rfl) dX11_loads_45 ⟨Nat.zero_le _, Nat.zero_le _⟩ (fun H locs hP hD hS => ?_)
        have hP : va_P D vwCl (wMo K hMo o8) H := hP
        have hD : va_D A (wMo K hMo o8) := hD
        refine lv_aload_n hx hb dX11_loads_48 rfl (lv_at hl 0 rfl) ?_
        refine va_get (D := D) (ci := 10) (v := .long (o8.2.1 31)) (C := RX11) (T := TX11) (N := 41) hx hb hts iX11 hown hK hP 0 o_Mo rfl 31 (by decide) (htl _ (mB53 _ (List.mem_of_getElem? (i := 10) rfl))) (fun _ h9 => h9) rfl dX11_loads_49 ?_
        refine lv_iload_n hx hb dX11_loads_52 rfl (lv_at hl 1 rfl) ?_
        refine lv_i2l (v := p1.toInt64) hx hb dX11_loads_53 rfl ?_
        refine lv_aload_n hx hb dX11_loads_54 rfl (lv_at hl 0 rfl) ?_
        refine va_get (D := D) (ci := 10) (v := .long (o8.2.1 32)) (C := RX11) (T := TX11) (N := 41) hx hb hts iX11 hown hK hP 0 o_Mo rfl 32 (by decide) (htl _ (mB53 _ (List.mem_of_getElem? (i := 9) rfl))) (fun _ h9 => h9) rfl dX11_loads_55 ?_
        refine lv_lmul hx hb dX11_loads_58 ?_
        refine W.lcmp hx hb dX11_loads_59 ?_
        refine lv_if_lt (tgt := 65) hx hb dX11_loads_60 (by decide) (fun c9 => ?_) (fun c9 => ?_)
        · have hf := it_t hf c9
          obtain ⟨v10, ev10⟩ : ∃ z : Int32, z = x3 + (1 : Int32) := ⟨_, rfl⟩
          have hf := lz_s hf v10 ev10
          refine lv_iinc (v := v10) (lv' := [(3, .int v10), (0, .ref (hMo 99)), (1, .int p1), (2, .int p2)]) hx hb dX11_loads_65 hl (k := 3) rfl (by rw [ev10]; rfl) (by decide) rfl (fun ls hl => ?_)
          refine lv_goto (tgt := 36) hx hb dX11_loads_68 (by decide) ?_
          exact ih v10 o8 H locs ls hf hP hD hS (lv_sub hl [1, 2, 3, 0] rfl)
        · have hf := it_f hf c9
          refine lv_iload_n hx hb dX11_loads_63 rfl (lv_at hl 3 rfl) ?_
          have e9 := Option.some.inj hf
          rw [hQ]
          exact W.iret (v := x3) hx hb hr (fun t ht hW => ⟨⟨x3, o8, rfl, ⟨pr1 e9, pr2 e9⟩, ⟨by rw [ht]; exact hP, va_K.moved hW.alike hK, hD⟩⟩, hS.F ht⟩) hS.2.2 dX11_loads_64
  have hen : entryFrame m args 4 = entryFrame m (([.ref (hMo 99), .int p1, .int p2] : List Value).toArray) 4 := by rw [hargs]
  have hl := lv_entry ([.ref (hMo 99), .int p1, .int p2]) (n := 4) (Nat.le_of_ble_eq_true rfl)
  rw [hen, lg_entry_eq]
  generalize (lg_sl ([.ref (hMo 99), .int p1, .int p2]) ++ List.replicate (4 - (lg_sl ([.ref (hMo 99), .int p1, .int p2])).length) Slot.unset).toArray = ls at hl ⊢
  have hl : lv_has ls 4 [(0, .ref (hMo 99)), (1, .int p1), (2, .int p2)] := hl
  unfold f_X11_loads at hf
  obtain ⟨H, hHe⟩ : ∃ z, z = s.heap := ⟨_, rfl⟩
  obtain ⟨locs, hLe⟩ : ∃ z : List Loc, z = [] := ⟨_, rfl⟩
  rw [← hLe]
  have hS : va_S A s.heap H locs := by rw [hHe, hLe]; exact hS
  have hP : va_P D vwCl (wMo K hMo sMo) H := by rw [hHe]; exact hP
  have hgo : W p l e (headSpec wz_X11_loads r_X11_loads).room s m args below meth c H locs 0 0 Q (F0 m 0 ls []) := by
    refine lv_aload_n hx hb dX11_loads_0 rfl (lv_at hl 0 rfl) ?_
    obtain ⟨o1, go1, hf⟩ := bd_s hf
    refine rs_Vv (As := []) (rest := []) ⟨hx, hb, hml, hown, hts⟩ (c_X11_good l D K F hMo H.size sMo o1 go1) (cwV 0 hts (gcV_X11_good (mB18 _ (List.mem_of_getElem? (i := 7) rfl))) rfl rfl rfl hdV_X11_good ⟨Nat.le_of_ble_eq_true rfl, Nat.le_of_ble_eq_true rfl⟩) hK hP hD hS hA (va_recv hK hP (ci := 10) (q0 := 0) rfl o_Mo) rfl hl.1 rfl (Nat.le_of_ble_eq_true rfl) dX11_loads_1 ⟨Nat.zero_le _, Nat.zero_le _⟩ (fun H locs hP hD hS => ?_)
    have hP : va_P D vwCl (wMo K hMo o1) H := hP
    have hD : va_D A (wMo K hMo o1) := hD
    refine lv_aload_n hx hb dX11_loads_4 rfl (lv_at hl 0 rfl) ?_
    refine va_get (D := D) (ci := 10) (v := .int (o1.1 14)) (C := RX11) (T := TX11) (N := 41) hx hb hts iX11 hown hK hP 0 o_Mo rfl 14 (by decide) (htl _ (mB18 _ (List.mem_of_getElem? (i := 4) rfl))) (fun _ h9 => h9) rfl dX11_loads_5 ?_
    refine lv_if_ne (tgt := 17) hx hb dX11_loads_8 (by decide) (fun c2 => ?_) (fun c2 => ?_)
    · have hf := it_f hf c2
      refine lv_iload_n hx hb dX11_loads_17 rfl (lv_at hl 1 rfl) ?_
      refine lv_iconst (v := (0 : Int32)) hx hb dX11_loads_18 (by decide) ?_
      refine lv_sipush (v := (999 : Int32)) hx hb dX11_loads_19 (by decide) ?_
      obtain ⟨o3, go3, hf⟩ := bd_s hf
      refine ro_Si (As := [.int p1, .int (0 : Int32), .int (999 : Int32)]) (rest := []) ⟨hx, hb, hml, hown, hts⟩ (c_X11_in l D K F p1 (0 : Int32) (999 : Int32) o3 go3) (va_cwS 3 hts (gcS_X11_in (mB18 _ (List.mem_of_getElem? (i := 12) rfl))) rfl rfl rfl hdS_X11_in ⟨Nat.le_of_ble_eq_true rfl, Nat.le_of_ble_eq_true rfl⟩) hK hP hS va_Pnil rfl hl.1 rfl (Nat.le_of_ble_eq_true rfl) dX11_loads_22 ⟨Nat.zero_le _, Nat.zero_le _⟩ (fun H locs hP hS => ?_)
      refine lv_if_ne (tgt := 34) hx hb dX11_loads_25 (by decide) (fun c4 => ?_) (fun c4 => ?_)
      · have hf := it_f hf c4
        refine lv_iconst (v := (0 : Int32)) hx hb dX11_loads_34 (by decide) ?_
        refine lv_istore_n (lv' := [(3, .int (0 : Int32)), (0, .ref (hMo 99)), (1, .int p1), (2, .int p2)]) hx hb dX11_loads_35 rfl hl (by decide) rfl (fun ls hl => ?_)
        exact w36 F (0 : Int32) o1 H locs ls hf hP hD hS (lv_sub hl [1, 2, 3, 0] rfl)
      · have hf := it_t hf c4
        refine lv_aload_n hx hb dX11_loads_28 rfl (lv_at hl 0 rfl) ?_
        refine lv_iconst (v := (2 : Int32)) hx hb dX11_loads_29 (by decide) ?_
        obtain ⟨o5, go5, hf⟩ := bd_s hf
        refine rs_Vi (As := [.int (2 : Int32)]) (rest := []) ⟨hx, hb, hml, hown, hts⟩ (c_X11_no l D K F hMo H.size o1 (2 : Int32) o5 go5) (cwV 1 hts (gcV_X11_no (mB18 _ (List.mem_of_getElem? (i := 15) rfl))) rfl rfl rfl hdV_X11_no ⟨Nat.le_of_ble_eq_true rfl, Nat.le_of_ble_eq_true rfl⟩) hK hP hD hS hA (va_recv hK hP (ci := 10) (q0 := 0) rfl o_Mo) rfl hl.1 rfl (Nat.le_of_ble_eq_true rfl) dX11_loads_30 ⟨Nat.zero_le _, Nat.zero_le _⟩ (fun H locs hP hD hS => ?_)
        have hP : va_P D vwCl (wMo K hMo o5.2) H := hP
        have hD : va_D A (wMo K hMo o5.2) := hD
        have e9 := Option.some.inj hf
        rw [hQ]
        exact W.iret (v := o5.1) hx hb hr (fun t ht hW => ⟨⟨o5.1, o5.2, rfl, ⟨pr1 e9, pr2 e9⟩, ⟨by rw [ht]; exact hP, va_K.moved hW.alike hK, hD⟩⟩, hS.F ht⟩) hS.2.2 dX11_loads_33
    · have hf := it_t hf c2
      refine lv_aload_n hx hb dX11_loads_11 rfl (lv_at hl 0 rfl) ?_
      refine lv_iconst (v := (1 : Int32)) hx hb dX11_loads_12 (by decide) ?_
      obtain ⟨o6, go6, hf⟩ := bd_s hf
      refine rs_Vi (As := [.int (1 : Int32)]) (rest := []) ⟨hx, hb, hml, hown, hts⟩ (c_X11_no l D K F hMo H.size o1 (1 : Int32) o6 go6) (cwV 1 hts (gcV_X11_no (mB18 _ (List.mem_of_getElem? (i := 15) rfl))) rfl rfl rfl hdV_X11_no ⟨Nat.le_of_ble_eq_true rfl, Nat.le_of_ble_eq_true rfl⟩) hK hP hD hS hA (va_recv hK hP (ci := 10) (q0 := 0) rfl o_Mo) rfl hl.1 rfl (Nat.le_of_ble_eq_true rfl) dX11_loads_13 ⟨Nat.zero_le _, Nat.zero_le _⟩ (fun H locs hP hD hS => ?_)
      have hP : va_P D vwCl (wMo K hMo o6.2) H := hP
      have hD : va_D A (wMo K hMo o6.2) := hD
      have e9 := Option.some.inj hf
      rw [hQ]
      exact W.iret (v := o6.1) hx hb hr (fun t ht hW => ⟨⟨o6.1, o6.2, rfl, ⟨pr1 e9, pr2 e9⟩, ⟨by rw [ht]; exact hP, va_K.moved hW.alike hK, hD⟩⟩, hS.F ht⟩) hS.2.2 dX11_loads_16
  rw [hHe] at hgo
  exact hgo

def wz_X11_depot : List Cond := .code yX11_depot cX11_depot 6 (some .long) :: wsL_law
abbrev r_X11_depot : Room := { frames := 2, cells := 0, slots := 0, locals := 55 }
set_option maxHeartbeats 4000000 in
set_option maxRecDepth 100000 in
theorem c_X11_depot (l : Launch) (D : va_G) (K : Nat → ClassId) (F : Nat) (hMo : Nat → Nat) (sz : Nat) (sMo : MS) (p1 : Int32) (p2 : Int32) (p3 : Int32) (p4 : Int32) (res : Int64 × MS) (hf : f_X11_depot F p1 p2 p3 p4 sMo = some res) : Met l yX11_depot wz_X11_depot r_X11_depot (va_Pc [.ref (hMo 99), .int p1, .int p2, .int p3, .int p4] (PW D K (wMo K hMo sMo) sz)) (va_Ql (fun r u => r = res.1 ∧ u = res.2) (fun u t => BW D K (va_A (wMo K hMo sMo) sz) (wMo K hMo u) t) (va_A (wMo K hMo sMo) sz)) 0 0 (va_A (wMo K hMo sMo) sz) := by
  refine Met.ofW (cc := cX11_depot) (maxL := 6) (ret := (some .long)) (by decide) rfl ?_
  intro p e s m args below meth c s₁ B hml hv
  obtain ⟨hargs, hsz, hP, hK, hD0⟩ := hv
  have hx := B.exec
  have hb := B.bytes
  have hr := B.returns
  have hts := atoms_spec (ws := wz_X11_depot) B.pre
  have htl : ∀ w ∈ wsL_law, w.before args s = true := fun w h => hts w (List.mem_cons_of_mem _ h)
  have hown : s.vm.findClass RX11 = some m.cls := findClass_of_methodNamed B.named
  have hlocks := B.notSynchronized
  subst hsz
  have hD := hD0.self (sz := s.heap.size)
  generalize hAe : va_A (wMo K hMo sMo) s.heap.size = A at hD ⊢
  have hA : ∀ q : Nat, s.heap.size ≤ q → A q := fun q h => by rw [← hAe]; exact Or.inr h
  have hS : va_S A s.heap s.heap [] := va_S.rf
  have iX11 : ∀ w ∈ wsX110, w ∈ wz_X11_depot := fun w h => List.mem_cons_of_mem _ (inlX11 w h)
  suffices hgo : ∀ Q : State → Prop, Q = MQ below (va_Ql (fun r u => r = res.1 ∧ u = res.2) (fun u t => BW D K A (wMo K hMo u) t) A) args s 0 0 A → W p l e (headSpec wz_X11_depot r_X11_depot).room s m args below meth c s.heap [] 0 0 Q (entryFrame m args 6) from hgo _ rfl
  intro Q hQ
  have w68 : ∀ (y0 : Int32), ∀ (sMo : MS), ∀ (H : Heap) (locs : List Loc) (ls : Array Slot), f_X11_depot_68 F p1 p2 p3 p4 y0 sMo = some res → va_P D vwCl (wMo K hMo sMo) H → va_D A (wMo K hMo sMo) → va_S A s.heap H locs → lv_has ls 6 [(0, .ref (hMo 99)), (3, .int p3), (4, .int p4)] → W p l e (headSpec wz_X11_depot r_X11_depot).room s m args below meth c H locs 0 0 Q (F0 m 68 ls [.int y0]) := by
    intro y0 sMo H locs ls hf hP hD hS hl
    unfold f_X11_depot_68 at hf
    refine lv_istore (lv' := [(5, .int y0), (0, .ref (hMo 99)), (3, .int p3), (4, .int p4)]) hx hb dX11_depot_68 hl (by decide) rfl (fun ls hl => ?_)
    refine lv_aload_n hx hb dX11_depot_70 rfl (lv_at hl 1 rfl) ?_
    refine lv_iload hx hb dX11_depot_71 (lv_at hl 0 rfl) ?_
    refine lv_iconst (v := (2 : Int32)) hx hb dX11_depot_73 (by decide) ?_
    refine lv_iload_n hx hb dX11_depot_74 rfl (lv_at hl 2 rfl) ?_
    refine lv_iconst (v := (1 : Int32)) hx hb dX11_depot_75 (by decide) ?_
    refine lv_isub hx hb dX11_depot_76 ?_
    refine lv_imul hx hb dX11_depot_77 ?_
    refine lv_isub hx hb dX11_depot_78 ?_
    refine lv_iload hx hb dX11_depot_79 (lv_at hl 0 rfl) ?_
    refine lv_iconst (v := (2 : Int32)) hx hb dX11_depot_81 (by decide) ?_
    obtain ⟨o11, go11, hf⟩ := bd_s hf
    refine rs_Vv (As := [.int (y0 - ((2 : Int32) * (p3 - (1 : Int32)))), .int y0, .int (2 : Int32)]) (rest := []) ⟨hx, hb, hml, hown, hts⟩ (c_X11_layParts l D K F hMo H.size sMo (y0 - ((2 : Int32) * (p3 - (1 : Int32)))) y0 (2 : Int32) o11 go11) (cwV 3 hts (gcV_X11_layParts (mB53 _ (List.mem_of_getElem? (i := 15) rfl))) rfl rfl rfl hdV_X11_layParts ⟨Nat.le_of_ble_eq_true rfl, Nat.le_of_ble_eq_true rfl⟩) hK hP hD hS hA (va_recv hK hP (ci := 10) (q0 := 0) rfl o_Mo) rfl hl.1 rfl (Nat.le_of_ble_eq_true rfl) dX11_depot_82 ⟨Nat.zero_le _, Nat.zero_le _⟩ (fun H locs hP hD hS => ?_)
    have hP : va_P D vwCl (wMo K hMo o11) H := hP
    have hD : va_D A (wMo K hMo o11) := hD
    refine lv_iload hx hb dX11_depot_85 (lv_at hl 3 rfl) ?_
    refine lv_if_eq (tgt := 97) hx hb dX11_depot_87 (by decide) (fun c12 => ?_) (fun c12 => ?_)
    · have hf := it_t hf c12
      refine lv_aload_n hx hb dX11_depot_97 rfl (lv_at hl 1 rfl) ?_
      refine va_get (D := D) (ci := 10) (v := .long (o11.2.1 31)) (C := RX11) (T := TX11) (N := 41) hx hb hts iX11 hown hK hP 0 o_Mo rfl 31 (by decide) (htl _ (mB53 _ (List.mem_of_getElem? (i := 10) rfl))) (fun _ h9 => h9) rfl dX11_depot_98 ?_
      have e9 := Option.some.inj hf
      rw [hQ]
      exact W.lret (v := (o11.2.1 31)) hx hb hr (fun t ht hW => ⟨⟨(o11.2.1 31), o11, rfl, ⟨pr1 e9, pr2 e9⟩, ⟨by rw [ht]; exact hP, va_K.moved hW.alike hK, hD⟩⟩, hS.F ht⟩) hS.2.2 dX11_depot_101
    · have hf := it_f hf c12
      refine lv_aload_n hx hb dX11_depot_90 rfl (lv_at hl 1 rfl) ?_
      refine va_get (D := D) (ci := 10) (v := .long (o11.2.1 32)) (C := RX11) (T := TX11) (N := 41) hx hb hts iX11 hown hK hP 0 o_Mo rfl 32 (by decide) (htl _ (mB53 _ (List.mem_of_getElem? (i := 9) rfl))) (fun _ h9 => h9) rfl dX11_depot_91 ?_
      refine lv_goto (tgt := 101) hx hb dX11_depot_94 (by decide) ?_
      have e9 := Option.some.inj hf
      rw [hQ]
      exact W.lret (v := (o11.2.1 32)) hx hb hr (fun t ht hW => ⟨⟨(o11.2.1 32), o11, rfl, ⟨pr1 e9, pr2 e9⟩, ⟨by rw [ht]; exact hP, va_K.moved hW.alike hK, hD⟩⟩, hS.F ht⟩) hS.2.2 dX11_depot_101
  have hen : entryFrame m args 6 = entryFrame m (([.ref (hMo 99), .int p1, .int p2, .int p3, .int p4] : List Value).toArray) 6 := by rw [hargs]
  have hl := lv_entry ([.ref (hMo 99), .int p1, .int p2, .int p3, .int p4]) (n := 6) (Nat.le_of_ble_eq_true rfl)
  rw [hen, lg_entry_eq]
  generalize (lg_sl ([.ref (hMo 99), .int p1, .int p2, .int p3, .int p4]) ++ List.replicate (6 - (lg_sl ([.ref (hMo 99), .int p1, .int p2, .int p3, .int p4])).length) Slot.unset).toArray = ls at hl ⊢
  have hl : lv_has ls 6 [(0, .ref (hMo 99)), (1, .int p1), (2, .int p2), (3, .int p3), (4, .int p4)] := hl
  unfold f_X11_depot at hf
  obtain ⟨H, hHe⟩ : ∃ z, z = s.heap := ⟨_, rfl⟩
  obtain ⟨locs, hLe⟩ : ∃ z : List Loc, z = [] := ⟨_, rfl⟩
  rw [← hLe]
  have hS : va_S A s.heap H locs := by rw [hHe, hLe]; exact hS
  have hP : va_P D vwCl (wMo K hMo sMo) H := by rw [hHe]; exact hP
  have hgo : W p l e (headSpec wz_X11_depot r_X11_depot).room s m args below meth c H locs 0 0 Q (F0 m 0 ls []) := by
    refine lv_aload_n hx hb dX11_depot_0 rfl (lv_at hl 0 rfl) ?_
    obtain ⟨o1, go1, hf⟩ := bd_s hf
    refine rs_Vv (As := []) (rest := []) ⟨hx, hb, hml, hown, hts⟩ (c_X11_good l D K F hMo H.size sMo o1 go1) (cwV 0 hts (gcV_X11_good (mB18 _ (List.mem_of_getElem? (i := 7) rfl))) rfl rfl rfl hdV_X11_good ⟨Nat.le_of_ble_eq_true rfl, Nat.le_of_ble_eq_true rfl⟩) hK hP hD hS hA (va_recv hK hP (ci := 10) (q0 := 0) rfl o_Mo) rfl hl.1 rfl (Nat.le_of_ble_eq_true rfl) dX11_depot_1 ⟨Nat.zero_le _, Nat.zero_le _⟩ (fun H locs hP hD hS => ?_)
    have hP : va_P D vwCl (wMo K hMo o1) H := hP
    have hD : va_D A (wMo K hMo o1) := hD
    refine lv_aload_n hx hb dX11_depot_4 rfl (lv_at hl 0 rfl) ?_
    refine va_get (D := D) (ci := 10) (v := .int (o1.1 14)) (C := RX11) (T := TX11) (N := 41) hx hb hts iX11 hown hK hP 0 o_Mo rfl 14 (by decide) (htl _ (mB18 _ (List.mem_of_getElem? (i := 4) rfl))) (fun _ h9 => h9) rfl dX11_depot_5 ?_
    refine lv_if_ne (tgt := 18) hx hb dX11_depot_8 (by decide) (fun c2 => ?_) (fun c2 => ?_)
    · have hf := it_f hf c2
      refine lv_iload_n hx hb dX11_depot_18 rfl (lv_at hl 1 rfl) ?_
      refine lv_iconst (v := (2 : Int32)) hx hb dX11_depot_19 (by decide) ?_
      refine lv_bipush (v := (12 : Int32)) hx hb dX11_depot_20 (by decide) ?_
      obtain ⟨o3, go3, hf⟩ := bd_s hf
      refine ro_Si (As := [.int p1, .int (2 : Int32), .int (12 : Int32)]) (rest := []) ⟨hx, hb, hml, hown, hts⟩ (c_X11_in l D K F p1 (2 : Int32) (12 : Int32) o3 go3) (va_cwS 3 hts (gcS_X11_in (mB18 _ (List.mem_of_getElem? (i := 12) rfl))) rfl rfl rfl hdS_X11_in ⟨Nat.le_of_ble_eq_true rfl, Nat.le_of_ble_eq_true rfl⟩) hK hP hS va_Pnil rfl hl.1 rfl (Nat.le_of_ble_eq_true rfl) dX11_depot_22 ⟨Nat.zero_le _, Nat.zero_le _⟩ (fun H locs hP hS => ?_)
      refine lv_if_ne (tgt := 35) hx hb dX11_depot_25 (by decide) (fun c4 => ?_) (fun c4 => ?_)
      · have hf := it_f hf c4
        refine lv_iload_n hx hb dX11_depot_35 rfl (lv_at hl 3 rfl) ?_
        refine lv_iconst (v := (1 : Int32)) hx hb dX11_depot_36 (by decide) ?_
        refine lv_iload_n hx hb dX11_depot_37 rfl (lv_at hl 1 rfl) ?_
        refine lv_iconst (v := (1 : Int32)) hx hb dX11_depot_38 (by decide) ?_
        refine lv_isub hx hb dX11_depot_39 ?_
        obtain ⟨o5, go5, hf⟩ := bd_s hf
        refine ro_Si (As := [.int p3, .int (1 : Int32), .int (p1 - (1 : Int32))]) (rest := []) ⟨hx, hb, hml, hown, hts⟩ (c_X11_in l D K F p3 (1 : Int32) (p1 - (1 : Int32)) o5 go5) (va_cwS 3 hts (gcS_X11_in (mB18 _ (List.mem_of_getElem? (i := 12) rfl))) rfl rfl rfl hdS_X11_in ⟨Nat.le_of_ble_eq_true rfl, Nat.le_of_ble_eq_true rfl⟩) hK hP hS va_Pnil rfl hl.1 rfl (Nat.le_of_ble_eq_true rfl) dX11_depot_40 ⟨Nat.zero_le _, Nat.zero_le _⟩ (fun H locs hP hS => ?_)
        refine lv_if_ne (tgt := 53) hx hb dX11_depot_43 (by decide) (fun c6 => ?_) (fun c6 => ?_)
        · have hf := it_f hf c6
          refine lv_iload_n hx hb dX11_depot_53 rfl (lv_at hl 2 rfl) ?_
          refine lv_if_eq (tgt := 63) hx hb dX11_depot_54 (by decide) (fun c7 => ?_) (fun c7 => ?_)
          · have hf := it_t hf c7
            refine lv_iconst (v := (2 : Int32)) hx hb dX11_depot_63 (by decide) ?_
            refine lv_iload_n hx hb dX11_depot_64 rfl (lv_at hl 1 rfl) ?_
            refine lv_imul hx hb dX11_depot_65 ?_
            refine lv_iconst (v := (1 : Int32)) hx hb dX11_depot_66 (by decide) ?_
            refine lv_isub hx hb dX11_depot_67 ?_
            exact w68 (((2 : Int32) * p1) - (1 : Int32)) o1 H locs ls hf hP hD hS (lv_sub hl [0, 3, 4] rfl)
          · have hf := it_f hf c7
            refine lv_iconst (v := (2 : Int32)) hx hb dX11_depot_57 (by decide) ?_
            refine lv_iload_n hx hb dX11_depot_58 rfl (lv_at hl 1 rfl) ?_
            refine lv_imul hx hb dX11_depot_59 ?_
            refine lv_goto (tgt := 68) hx hb dX11_depot_60 (by decide) ?_
            exact w68 ((2 : Int32) * p1) o1 H locs ls hf hP hD hS (lv_sub hl [0, 3, 4] rfl)
        · have hf := it_t hf c6
          refine lv_aload_n hx hb dX11_depot_46 rfl (lv_at hl 0 rfl) ?_
          refine lv_iconst (v := (1 : Int32)) hx hb dX11_depot_47 (by decide) ?_
          obtain ⟨o8, go8, hf⟩ := bd_s hf
          refine rs_Vi (As := [.int (1 : Int32)]) (rest := []) ⟨hx, hb, hml, hown, hts⟩ (c_X11_no l D K F hMo H.size o1 (1 : Int32) o8 go8) (cwV 1 hts (gcV_X11_no (mB18 _ (List.mem_of_getElem? (i := 15) rfl))) rfl rfl rfl hdV_X11_no ⟨Nat.le_of_ble_eq_true rfl, Nat.le_of_ble_eq_true rfl⟩) hK hP hD hS hA (va_recv hK hP (ci := 10) (q0 := 0) rfl o_Mo) rfl hl.1 rfl (Nat.le_of_ble_eq_true rfl) dX11_depot_48 ⟨Nat.zero_le _, Nat.zero_le _⟩ (fun H locs hP hD hS => ?_)
          have hP : va_P D vwCl (wMo K hMo o8.2) H := hP
          have hD : va_D A (wMo K hMo o8.2) := hD
          refine lv_i2l (v := o8.1.toInt64) hx hb dX11_depot_51 rfl ?_
          have e9 := Option.some.inj hf
          rw [hQ]
          exact W.lret (v := o8.1.toInt64) hx hb hr (fun t ht hW => ⟨⟨o8.1.toInt64, o8.2, rfl, ⟨pr1 e9, pr2 e9⟩, ⟨by rw [ht]; exact hP, va_K.moved hW.alike hK, hD⟩⟩, hS.F ht⟩) hS.2.2 dX11_depot_52
      · have hf := it_t hf c4
        refine lv_aload_n hx hb dX11_depot_28 rfl (lv_at hl 0 rfl) ?_
        refine lv_iconst (v := (2 : Int32)) hx hb dX11_depot_29 (by decide) ?_
        obtain ⟨o9, go9, hf⟩ := bd_s hf
        refine rs_Vi (As := [.int (2 : Int32)]) (rest := []) ⟨hx, hb, hml, hown, hts⟩ (c_X11_no l D K F hMo H.size o1 (2 : Int32) o9 go9) (cwV 1 hts (gcV_X11_no (mB18 _ (List.mem_of_getElem? (i := 15) rfl))) rfl rfl rfl hdV_X11_no ⟨Nat.le_of_ble_eq_true rfl, Nat.le_of_ble_eq_true rfl⟩) hK hP hD hS hA (va_recv hK hP (ci := 10) (q0 := 0) rfl o_Mo) rfl hl.1 rfl (Nat.le_of_ble_eq_true rfl) dX11_depot_30 ⟨Nat.zero_le _, Nat.zero_le _⟩ (fun H locs hP hD hS => ?_)
        have hP : va_P D vwCl (wMo K hMo o9.2) H := hP
        have hD : va_D A (wMo K hMo o9.2) := hD
        refine lv_i2l (v := o9.1.toInt64) hx hb dX11_depot_33 rfl ?_
        have e9 := Option.some.inj hf
        rw [hQ]
        exact W.lret (v := o9.1.toInt64) hx hb hr (fun t ht hW => ⟨⟨o9.1.toInt64, o9.2, rfl, ⟨pr1 e9, pr2 e9⟩, ⟨by rw [ht]; exact hP, va_K.moved hW.alike hK, hD⟩⟩, hS.F ht⟩) hS.2.2 dX11_depot_34
    · have hf := it_t hf c2
      refine lv_aload_n hx hb dX11_depot_11 rfl (lv_at hl 0 rfl) ?_
      refine lv_iconst (v := (1 : Int32)) hx hb dX11_depot_12 (by decide) ?_
      obtain ⟨o10, go10, hf⟩ := bd_s hf
      refine rs_Vi (As := [.int (1 : Int32)]) (rest := []) ⟨hx, hb, hml, hown, hts⟩ (c_X11_no l D K F hMo H.size o1 (1 : Int32) o10 go10) (cwV 1 hts (gcV_X11_no (mB18 _ (List.mem_of_getElem? (i := 15) rfl))) rfl rfl rfl hdV_X11_no ⟨Nat.le_of_ble_eq_true rfl, Nat.le_of_ble_eq_true rfl⟩) hK hP hD hS hA (va_recv hK hP (ci := 10) (q0 := 0) rfl o_Mo) rfl hl.1 rfl (Nat.le_of_ble_eq_true rfl) dX11_depot_13 ⟨Nat.zero_le _, Nat.zero_le _⟩ (fun H locs hP hD hS => ?_)
      have hP : va_P D vwCl (wMo K hMo o10.2) H := hP
      have hD : va_D A (wMo K hMo o10.2) := hD
      refine lv_i2l (v := o10.1.toInt64) hx hb dX11_depot_16 rfl ?_
      have e9 := Option.some.inj hf
      rw [hQ]
      exact W.lret (v := o10.1.toInt64) hx hb hr (fun t ht hW => ⟨⟨o10.1.toInt64, o10.2, rfl, ⟨pr1 e9, pr2 e9⟩, ⟨by rw [ht]; exact hP, va_K.moved hW.alike hK, hD⟩⟩, hS.F ht⟩) hS.2.2 dX11_depot_17
  rw [hHe] at hgo
  exact hgo

def wz_X11_convoy : List Cond := .code yX11_convoy cX11_convoy 3 (some .long) :: wsL_law
abbrev r_X11_convoy : Room := { frames := 2, cells := 0, slots := 0, locals := 55 }
set_option maxHeartbeats 4000000 in
set_option maxRecDepth 100000 in
theorem c_X11_convoy (l : Launch) (D : va_G) (K : Nat → ClassId) (F : Nat) (hMo : Nat → Nat) (sz : Nat) (sMo : MS) (p1 : Int32) (p2 : Int32) (res : Int64 × MS) (hf : f_X11_convoy F p1 p2 sMo = some res) : Met l yX11_convoy wz_X11_convoy r_X11_convoy (va_Pc [.ref (hMo 99), .int p1, .int p2] (PW D K (wMo K hMo sMo) sz)) (va_Ql (fun r u => r = res.1 ∧ u = res.2) (fun u t => BW D K (va_A (wMo K hMo sMo) sz) (wMo K hMo u) t) (va_A (wMo K hMo sMo) sz)) 0 0 (va_A (wMo K hMo sMo) sz) := by
  refine Met.ofW (cc := cX11_convoy) (maxL := 3) (ret := (some .long)) (by decide) rfl ?_
  intro p e s m args below meth c s₁ B hml hv
  obtain ⟨hargs, hsz, hP, hK, hD0⟩ := hv
  have hx := B.exec
  have hb := B.bytes
  have hr := B.returns
  have hts := atoms_spec (ws := wz_X11_convoy) B.pre
  have htl : ∀ w ∈ wsL_law, w.before args s = true := fun w h => hts w (List.mem_cons_of_mem _ h)
  have hown : s.vm.findClass RX11 = some m.cls := findClass_of_methodNamed B.named
  have hlocks := B.notSynchronized
  subst hsz
  have hD := hD0.self (sz := s.heap.size)
  generalize hAe : va_A (wMo K hMo sMo) s.heap.size = A at hD ⊢
  have hA : ∀ q : Nat, s.heap.size ≤ q → A q := fun q h => by rw [← hAe]; exact Or.inr h
  have hS : va_S A s.heap s.heap [] := va_S.rf
  have iX11 : ∀ w ∈ wsX110, w ∈ wz_X11_convoy := fun w h => List.mem_cons_of_mem _ (inlX11 w h)
  suffices hgo : ∀ Q : State → Prop, Q = MQ below (va_Ql (fun r u => r = res.1 ∧ u = res.2) (fun u t => BW D K A (wMo K hMo u) t) A) args s 0 0 A → W p l e (headSpec wz_X11_convoy r_X11_convoy).room s m args below meth c s.heap [] 0 0 Q (entryFrame m args 3) from hgo _ rfl
  intro Q hQ
  have hen : entryFrame m args 3 = entryFrame m (([.ref (hMo 99), .int p1, .int p2] : List Value).toArray) 3 := by rw [hargs]
  have hl := lv_entry ([.ref (hMo 99), .int p1, .int p2]) (n := 3) (Nat.le_of_ble_eq_true rfl)
  rw [hen, lg_entry_eq]
  generalize (lg_sl ([.ref (hMo 99), .int p1, .int p2]) ++ List.replicate (3 - (lg_sl ([.ref (hMo 99), .int p1, .int p2])).length) Slot.unset).toArray = ls at hl ⊢
  have hl : lv_has ls 3 [(0, .ref (hMo 99)), (1, .int p1), (2, .int p2)] := hl
  unfold f_X11_convoy at hf
  obtain ⟨H, hHe⟩ : ∃ z, z = s.heap := ⟨_, rfl⟩
  obtain ⟨locs, hLe⟩ : ∃ z : List Loc, z = [] := ⟨_, rfl⟩
  rw [← hLe]
  have hS : va_S A s.heap H locs := by rw [hHe, hLe]; exact hS
  have hP : va_P D vwCl (wMo K hMo sMo) H := by rw [hHe]; exact hP
  have hgo : W p l e (headSpec wz_X11_convoy r_X11_convoy).room s m args below meth c H locs 0 0 Q (F0 m 0 ls []) := by
    refine lv_aload_n hx hb dX11_convoy_0 rfl (lv_at hl 0 rfl) ?_
    obtain ⟨o1, go1, hf⟩ := bd_s hf
    refine rs_Vv (As := []) (rest := []) ⟨hx, hb, hml, hown, hts⟩ (c_X11_good l D K F hMo H.size sMo o1 go1) (cwV 0 hts (gcV_X11_good (mB18 _ (List.mem_of_getElem? (i := 7) rfl))) rfl rfl rfl hdV_X11_good ⟨Nat.le_of_ble_eq_true rfl, Nat.le_of_ble_eq_true rfl⟩) hK hP hD hS hA (va_recv hK hP (ci := 10) (q0 := 0) rfl o_Mo) rfl hl.1 rfl (Nat.le_of_ble_eq_true rfl) dX11_convoy_1 ⟨Nat.zero_le _, Nat.zero_le _⟩ (fun H locs hP hD hS => ?_)
    have hP : va_P D vwCl (wMo K hMo o1) H := hP
    have hD : va_D A (wMo K hMo o1) := hD
    refine lv_aload_n hx hb dX11_convoy_4 rfl (lv_at hl 0 rfl) ?_
    refine va_get (D := D) (ci := 10) (v := .int (o1.1 14)) (C := RX11) (T := TX11) (N := 41) hx hb hts iX11 hown hK hP 0 o_Mo rfl 14 (by decide) (htl _ (mB18 _ (List.mem_of_getElem? (i := 4) rfl))) (fun _ h9 => h9) rfl dX11_convoy_5 ?_
    refine lv_if_ne (tgt := 18) hx hb dX11_convoy_8 (by decide) (fun c2 => ?_) (fun c2 => ?_)
    · have hf := it_f hf c2
      refine lv_iload_n hx hb dX11_convoy_18 rfl (lv_at hl 1 rfl) ?_
      refine lv_iconst (v := (1 : Int32)) hx hb dX11_convoy_19 (by decide) ?_
      refine lv_bipush (v := (12 : Int32)) hx hb dX11_convoy_20 (by decide) ?_
      obtain ⟨o3, go3, hf⟩ := bd_s hf
      refine ro_Si (As := [.int p1, .int (1 : Int32), .int (12 : Int32)]) (rest := []) ⟨hx, hb, hml, hown, hts⟩ (c_X11_in l D K F p1 (1 : Int32) (12 : Int32) o3 go3) (va_cwS 3 hts (gcS_X11_in (mB18 _ (List.mem_of_getElem? (i := 12) rfl))) rfl rfl rfl hdS_X11_in ⟨Nat.le_of_ble_eq_true rfl, Nat.le_of_ble_eq_true rfl⟩) hK hP hS va_Pnil rfl hl.1 rfl (Nat.le_of_ble_eq_true rfl) dX11_convoy_22 ⟨Nat.zero_le _, Nat.zero_le _⟩ (fun H locs hP hS => ?_)
      refine lv_if_ne (tgt := 35) hx hb dX11_convoy_25 (by decide) (fun c4 => ?_) (fun c4 => ?_)
      · have hf := it_f hf c4
        refine lv_aload_n hx hb dX11_convoy_35 rfl (lv_at hl 0 rfl) ?_
        refine lv_iconst (v := (1 : Int32)) hx hb dX11_convoy_36 (by decide) ?_
        refine lv_iload_n hx hb dX11_convoy_37 rfl (lv_at hl 1 rfl) ?_
        refine lv_iconst (v := (1 : Int32)) hx hb dX11_convoy_38 (by decide) ?_
        obtain ⟨o5, go5, hf⟩ := bd_s hf
        refine rs_Vv (As := [.int (1 : Int32), .int p1, .int (1 : Int32)]) (rest := []) ⟨hx, hb, hml, hown, hts⟩ (c_X11_layParts l D K F hMo H.size o1 (1 : Int32) p1 (1 : Int32) o5 go5) (cwV 3 hts (gcV_X11_layParts (mB53 _ (List.mem_of_getElem? (i := 15) rfl))) rfl rfl rfl hdV_X11_layParts ⟨Nat.le_of_ble_eq_true rfl, Nat.le_of_ble_eq_true rfl⟩) hK hP hD hS hA (va_recv hK hP (ci := 10) (q0 := 0) rfl o_Mo) rfl hl.1 rfl (Nat.le_of_ble_eq_true rfl) dX11_convoy_39 ⟨Nat.zero_le _, Nat.zero_le _⟩ (fun H locs hP hD hS => ?_)
        have hP : va_P D vwCl (wMo K hMo o5) H := hP
        have hD : va_D A (wMo K hMo o5) := hD
        refine lv_iload_n hx hb dX11_convoy_42 rfl (lv_at hl 2 rfl) ?_
        refine lv_if_eq (tgt := 53) hx hb dX11_convoy_43 (by decide) (fun c6 => ?_) (fun c6 => ?_)
        · have hf := it_t hf c6
          refine lv_aload_n hx hb dX11_convoy_53 rfl (lv_at hl 0 rfl) ?_
          refine va_get (D := D) (ci := 10) (v := .long (o5.2.1 31)) (C := RX11) (T := TX11) (N := 41) hx hb hts iX11 hown hK hP 0 o_Mo rfl 31 (by decide) (htl _ (mB53 _ (List.mem_of_getElem? (i := 10) rfl))) (fun _ h9 => h9) rfl dX11_convoy_54 ?_
          have e9 := Option.some.inj hf
          rw [hQ]
          exact W.lret (v := (o5.2.1 31)) hx hb hr (fun t ht hW => ⟨⟨(o5.2.1 31), o5, rfl, ⟨pr1 e9, pr2 e9⟩, ⟨by rw [ht]; exact hP, va_K.moved hW.alike hK, hD⟩⟩, hS.F ht⟩) hS.2.2 dX11_convoy_57
        · have hf := it_f hf c6
          refine lv_aload_n hx hb dX11_convoy_46 rfl (lv_at hl 0 rfl) ?_
          refine va_get (D := D) (ci := 10) (v := .long (o5.2.1 32)) (C := RX11) (T := TX11) (N := 41) hx hb hts iX11 hown hK hP 0 o_Mo rfl 32 (by decide) (htl _ (mB53 _ (List.mem_of_getElem? (i := 9) rfl))) (fun _ h9 => h9) rfl dX11_convoy_47 ?_
          refine lv_goto (tgt := 57) hx hb dX11_convoy_50 (by decide) ?_
          have e9 := Option.some.inj hf
          rw [hQ]
          exact W.lret (v := (o5.2.1 32)) hx hb hr (fun t ht hW => ⟨⟨(o5.2.1 32), o5, rfl, ⟨pr1 e9, pr2 e9⟩, ⟨by rw [ht]; exact hP, va_K.moved hW.alike hK, hD⟩⟩, hS.F ht⟩) hS.2.2 dX11_convoy_57
      · have hf := it_t hf c4
        refine lv_aload_n hx hb dX11_convoy_28 rfl (lv_at hl 0 rfl) ?_
        refine lv_iconst (v := (2 : Int32)) hx hb dX11_convoy_29 (by decide) ?_
        obtain ⟨o7, go7, hf⟩ := bd_s hf
        refine rs_Vi (As := [.int (2 : Int32)]) (rest := []) ⟨hx, hb, hml, hown, hts⟩ (c_X11_no l D K F hMo H.size o1 (2 : Int32) o7 go7) (cwV 1 hts (gcV_X11_no (mB18 _ (List.mem_of_getElem? (i := 15) rfl))) rfl rfl rfl hdV_X11_no ⟨Nat.le_of_ble_eq_true rfl, Nat.le_of_ble_eq_true rfl⟩) hK hP hD hS hA (va_recv hK hP (ci := 10) (q0 := 0) rfl o_Mo) rfl hl.1 rfl (Nat.le_of_ble_eq_true rfl) dX11_convoy_30 ⟨Nat.zero_le _, Nat.zero_le _⟩ (fun H locs hP hD hS => ?_)
        have hP : va_P D vwCl (wMo K hMo o7.2) H := hP
        have hD : va_D A (wMo K hMo o7.2) := hD
        refine lv_i2l (v := o7.1.toInt64) hx hb dX11_convoy_33 rfl ?_
        have e9 := Option.some.inj hf
        rw [hQ]
        exact W.lret (v := o7.1.toInt64) hx hb hr (fun t ht hW => ⟨⟨o7.1.toInt64, o7.2, rfl, ⟨pr1 e9, pr2 e9⟩, ⟨by rw [ht]; exact hP, va_K.moved hW.alike hK, hD⟩⟩, hS.F ht⟩) hS.2.2 dX11_convoy_34
    · have hf := it_t hf c2
      refine lv_aload_n hx hb dX11_convoy_11 rfl (lv_at hl 0 rfl) ?_
      refine lv_iconst (v := (1 : Int32)) hx hb dX11_convoy_12 (by decide) ?_
      obtain ⟨o8, go8, hf⟩ := bd_s hf
      refine rs_Vi (As := [.int (1 : Int32)]) (rest := []) ⟨hx, hb, hml, hown, hts⟩ (c_X11_no l D K F hMo H.size o1 (1 : Int32) o8 go8) (cwV 1 hts (gcV_X11_no (mB18 _ (List.mem_of_getElem? (i := 15) rfl))) rfl rfl rfl hdV_X11_no ⟨Nat.le_of_ble_eq_true rfl, Nat.le_of_ble_eq_true rfl⟩) hK hP hD hS hA (va_recv hK hP (ci := 10) (q0 := 0) rfl o_Mo) rfl hl.1 rfl (Nat.le_of_ble_eq_true rfl) dX11_convoy_13 ⟨Nat.zero_le _, Nat.zero_le _⟩ (fun H locs hP hD hS => ?_)
      have hP : va_P D vwCl (wMo K hMo o8.2) H := hP
      have hD : va_D A (wMo K hMo o8.2) := hD
      refine lv_i2l (v := o8.1.toInt64) hx hb dX11_convoy_16 rfl ?_
      have e9 := Option.some.inj hf
      rw [hQ]
      exact W.lret (v := o8.1.toInt64) hx hb hr (fun t ht hW => ⟨⟨o8.1.toInt64, o8.2, rfl, ⟨pr1 e9, pr2 e9⟩, ⟨by rw [ht]; exact hP, va_K.moved hW.alike hK, hD⟩⟩, hS.F ht⟩) hS.2.2 dX11_convoy_17
  rw [hHe] at hgo
  exact hgo

def wz_X11_doesFit : List Cond := .code yX11_doesFit cX11_doesFit 8 (some .boolean) :: wsL_law
abbrev r_X11_doesFit : Nat → Room := fun d => { frames := d + 1, cells := 0, slots := 0, locals := d * 27 + 22 }
theorem gcV_X11_doesFit {T0 : Cond} {own : String} {i : Nat} (h : Cond.methodLink own i yX11_doesFit ∈ wsL_law) : GoodIn (T0 :: wsL_law) (wsV own i RX11 yX11_doesFit wz_X11_doesFit) := gV h (mB57 _ (List.mem_of_getElem? (i := 18) rfl)) (mB57 _ (List.mem_of_getElem? (i := 19) rfl)) (mB1 _ (List.mem_of_getElem? (i := 5) rfl)) (mB57 _ (List.mem_of_getElem? (i := 20) rfl))
theorem hdV_X11_doesFit : yX11_doesFit.cls = RX11 ∧ yX11_doesFit.cls ≠ "java/lang/invoke/MethodHandle" ∧ yX11_doesFit.cls ≠ "java/lang/invoke/VarHandle" ∧ (parseMethodDescriptor yX11_doesFit.desc).map (fun d => d.parameters.length) = some 4 := by decide +kernel
set_option maxHeartbeats 4000000 in
set_option maxRecDepth 100000 in
theorem cs_X11_doesFit (l : Launch) (D : va_G) (K : Nat → ClassId) (F : Nat) (hMo : Nat → Nat) (sMo : MS) (d : Nat) (rc : Int32 → Int32 → Int32 → Int32 → Option Int32) (ih0 : ∀ (p1 : Int32) (p2 : Int32) (p3 : Int32) (p4 : Int32) (res : Int32), rc p1 p2 p3 p4 = some res → Met l yX11_doesFit wz_X11_doesFit (r_X11_doesFit d) (va_Pc [.ref (hMo 99), .int p1, .int p2, .int p3, .int p4] (PR D K (wMo K hMo sMo))) (va_Qi (fun r (_ : Unit) => r = res) BN nOne) 0 0 nOne) (p1 : Int32) (p2 : Int32) (p3 : Int32) (p4 : Int32) (res : Int32) (hf : f_X11_doesFit_b F sMo p1 p2 p3 p4 rc  = some res) : Met l yX11_doesFit wz_X11_doesFit (r_X11_doesFit (d + 1)) (va_Pc [.ref (hMo 99), .int p1, .int p2, .int p3, .int p4] (PR D K (wMo K hMo sMo))) (va_Qi (fun r (_ : Unit) => r = res) BN nOne) 0 0 nOne := by
  refine Met.ofW (cc := cX11_doesFit) (maxL := 8) (ret := (some .boolean)) (by decide) rfl ?_
  intro p e s m args below meth c s₁ B hml hv
  obtain ⟨hargs, hP, hK⟩ := hv
  have hx := B.exec
  have hb := B.bytes
  have hr := B.returns
  have hts := atoms_spec (ws := wz_X11_doesFit) B.pre
  have htl : ∀ w ∈ wsL_law, w.before args s = true := fun w h => hts w (List.mem_cons_of_mem _ h)
  have hown : s.vm.findClass RX11 = some m.cls := findClass_of_methodNamed B.named
  have hlocks := B.notSynchronized
  have hS : va_S nOne s.heap s.heap [] := va_S.rf
  have iX11 : ∀ w ∈ wsX110, w ∈ wz_X11_doesFit := fun w h => List.mem_cons_of_mem _ (inlX11 w h)
  suffices hgo : ∀ Q : State → Prop, Q = MQ below (va_Qi (fun r (_ : Unit) => r = res) BN nOne) args s 0 0 nOne → W p l e (headSpec wz_X11_doesFit (r_X11_doesFit (d + 1))).room s m args below meth c s.heap [] 0 0 Q (entryFrame m args 8) from hgo _ rfl
  intro Q hQ
  have w131 : ∀ (H : Heap) (locs : List Loc) (ls : Array Slot), f_X11_doesFit_131 F sMo p1 p2 p3 p4 rc  = some res → va_P D vwCl (wMo K hMo sMo) H → va_S nOne s.heap H locs → lv_has ls 8 [(0, .ref (hMo 99)), (1, .int p1), (2, .int p2), (3, .int p3), (4, .int p4)] → W p l e (headSpec wz_X11_doesFit (r_X11_doesFit (d + 1))).room s m args below meth c H locs 0 0 Q (F0 m 131 ls []) := by
    intro  H locs ls hf hP hS hl
    unfold f_X11_doesFit_131 at hf
    refine lv_iload_n hx hb dX11_doesFit_131 rfl (lv_at hl 2 rfl) ?_
    refine lv_iload_n hx hb dX11_doesFit_132 rfl (lv_at hl 1 rfl) ?_
    refine lv_iconst (v := (1 : Int32)) hx hb dX11_doesFit_133 (by decide) ?_
    refine lv_isub hx hb dX11_doesFit_134 ?_
    refine lv_icmp_ne (tgt := 155) hx hb dX11_doesFit_135 (by decide) (fun c27 => ?_) (fun c27 => ?_)
    · have hf := it_f hf c27
      refine lv_iload hx hb dX11_doesFit_155 (lv_at hl 4 rfl) ?_
      refine lv_aload_n hx hb dX11_doesFit_157 rfl (lv_at hl 0 rfl) ?_
      refine lv_aload_n hx hb dX11_doesFit_158 rfl (lv_at hl 0 rfl) ?_
      refine va_get (D := D) (ci := 10) (v := .ref (hMo 33)) (C := RX11) (T := TX11) (N := 41) hx hb hts iX11 hown hK hP 0 o_Mo rfl 33 (by decide) (htl _ (mB6 _ (List.mem_of_getElem? (i := 16) rfl))) (fun _ h9 => h9) rfl dX11_doesFit_159 ?_
      refine lv_iload_n hx hb dX11_doesFit_162 rfl (lv_at hl 2 rfl) ?_
      obtain ⟨g28, hf⟩ := gd_s hf
      refine va_iald hx hb hK hP 16 0 (f := sMo.2.2.1 33) a_Mo_33 rfl (vpb_in g28) dX11_doesFit_163 ?_
      refine lv_topi (fun v29 ev29 => ?_)
      have hf := lz_s hf v29 ev29
      refine lv_aload_n hx hb dX11_doesFit_164 rfl (lv_at hl 0 rfl) ?_
      refine va_get (D := D) (ci := 10) (v := .ref (hMo 33)) (C := RX11) (T := TX11) (N := 41) hx hb hts iX11 hown hK hP 0 o_Mo rfl 33 (by decide) (htl _ (mB6 _ (List.mem_of_getElem? (i := 16) rfl))) (fun _ h9 => h9) rfl dX11_doesFit_165 ?_
      refine lv_iload_n hx hb dX11_doesFit_168 rfl (lv_at hl 2 rfl) ?_
      refine lv_iconst (v := (1 : Int32)) hx hb dX11_doesFit_169 (by decide) ?_
      refine lv_iadd hx hb dX11_doesFit_170 ?_
      obtain ⟨g30, hf⟩ := gd_s hf
      refine va_iald hx hb hK hP 16 0 (f := sMo.2.2.1 33) a_Mo_33 rfl (vpb_in g30) dX11_doesFit_171 ?_
      refine lv_topi (fun v31 ev31 => ?_)
      have hf := lz_s hf v31 ev31
      obtain ⟨o32, go32, hf⟩ := bd_s hf
      refine ro_Vi (As := [.int v29, .int v31]) (rest := [.int p4]) ⟨hx, hb, hml, hown, hts⟩ (c_X11_roadOf l D K F hMo sMo v29 v31 o32 go32) (cwV 2 hts (gcV_X11_roadOf (mB25 _ (List.mem_of_getElem? (i := 11) rfl))) rfl rfl rfl hdV_X11_roadOf ⟨Nat.le_trans (Nat.le_of_ble_eq_true rfl) (Nat.le_add_left 1 (d + 1)), Nat.le_trans (Nat.le_of_ble_eq_true rfl) (Nat.le_add_left 22 ((d + 1) * 27))⟩) hK hP hS hP (va_recv hK hP (ci := 10) (q0 := 0) rfl o_Mo) rfl hl.1 rfl (Nat.le_of_ble_eq_true rfl) dX11_doesFit_172 ⟨Nat.zero_le _, Nat.zero_le _⟩ (fun H locs hP hS => ?_)
      refine lv_isub hx hb dX11_doesFit_175 ?_
      refine lv_istore (lv' := [(5, .int (p4 - o32)), (0, .ref (hMo 99)), (1, .int p1), (2, .int p2), (3, .int p3), (4, .int p4)]) hx hb dX11_doesFit_176 hl (by decide) rfl (fun ls hl => ?_)
      refine lv_iload hx hb dX11_doesFit_178 (lv_at hl 0 rfl) ?_
      refine lv_if_lt (tgt := 201) hx hb dX11_doesFit_180 (by decide) (fun c33 => ?_) (fun c33 => ?_)
      · have hf := it_t hf c33
        refine lv_iconst (v := (0 : Int32)) hx hb dX11_doesFit_201 (by decide) ?_
        have e9 := Option.some.inj hf
        rw [hQ]
        exact W.zret (v := (0 : Int32)) hx hb hr rfl (fun t ht hW => ⟨⟨(0 : Int32), (), rfl, e9, trivial⟩, hS.F ht⟩) hS.2.2 dX11_doesFit_202
      · have hf := it_f hf c33
        refine lv_aload_n hx hb dX11_doesFit_183 rfl (lv_at hl 1 rfl) ?_
        refine lv_iload_n hx hb dX11_doesFit_184 rfl (lv_at hl 2 rfl) ?_
        refine lv_iload_n hx hb dX11_doesFit_185 rfl (lv_at hl 3 rfl) ?_
        refine lv_iconst (v := (1 : Int32)) hx hb dX11_doesFit_186 (by decide) ?_
        refine lv_iadd hx hb dX11_doesFit_187 ?_
        refine lv_iload_n hx hb dX11_doesFit_188 rfl (lv_at hl 4 rfl) ?_
        refine lv_iload hx hb dX11_doesFit_189 (lv_at hl 0 rfl) ?_
        obtain ⟨o34, go34, hf⟩ := bd_s hf
        refine ro_Vi (As := [.int p1, .int (p2 + (1 : Int32)), .int p3, .int (p4 - o32)]) (rest := []) ⟨hx, hb, hml, hown, hts⟩ (ih0 p1 (p2 + (1 : Int32)) p3 (p4 - o32) o34 go34) (cwV 4 hts (gV (mB57 _ (List.mem_of_getElem? (i := 17) rfl)) (mB57 _ (List.mem_of_getElem? (i := 18) rfl)) (mB57 _ (List.mem_of_getElem? (i := 19) rfl)) (mB1 _ (List.mem_of_getElem? (i := 5) rfl)) (mB57 _ (List.mem_of_getElem? (i := 20) rfl))) rfl rfl rfl hdV_X11_doesFit ⟨by show d + 1 + 1 ≤ d + 1 + 1; omega, by show 8 + (8 + 11) + (d * 27 + 22) ≤ (d + 1) * 27 + 22; omega⟩) hK hP hS hP (va_recv hK hP (ci := 10) (q0 := 0) rfl o_Mo) rfl hl.1 rfl (Nat.le_of_ble_eq_true rfl) dX11_doesFit_191 ⟨Nat.zero_le _, Nat.zero_le _⟩ (fun H locs hP hS => ?_)
        refine lv_if_eq (tgt := 201) hx hb dX11_doesFit_194 (by decide) (fun c35 => ?_) (fun c35 => ?_)
        · have hf := it_t hf c35
          refine lv_iconst (v := (0 : Int32)) hx hb dX11_doesFit_201 (by decide) ?_
          have e9 := Option.some.inj hf
          rw [hQ]
          exact W.zret (v := (0 : Int32)) hx hb hr rfl (fun t ht hW => ⟨⟨(0 : Int32), (), rfl, e9, trivial⟩, hS.F ht⟩) hS.2.2 dX11_doesFit_202
        · have hf := it_f hf c35
          refine lv_iconst (v := (1 : Int32)) hx hb dX11_doesFit_197 (by decide) ?_
          refine lv_goto (tgt := 202) hx hb dX11_doesFit_198 (by decide) ?_
          have e9 := Option.some.inj hf
          rw [hQ]
          exact W.zret (v := (1 : Int32)) hx hb hr rfl (fun t ht hW => ⟨⟨(1 : Int32), (), rfl, e9, trivial⟩, hS.F ht⟩) hS.2.2 dX11_doesFit_202
    · have hf := it_t hf c27
      refine lv_iload_n hx hb dX11_doesFit_138 rfl (lv_at hl 3 rfl) ?_
      refine lv_aload_n hx hb dX11_doesFit_139 rfl (lv_at hl 0 rfl) ?_
      refine va_get (D := D) (ci := 10) (v := .ref (hMo 15)) (C := RX11) (T := TX11) (N := 41) hx hb hts iX11 hown hK hP 0 o_Mo rfl 15 (by decide) (htl _ (mB6 _ (List.mem_of_getElem? (i := 3) rfl))) (fun _ h9 => h9) rfl dX11_doesFit_140 ?_
      refine lv_bipush (v := (9 : Int32)) hx hb dX11_doesFit_143 (by decide) ?_
      obtain ⟨g36, hf⟩ := gd_s hf
      refine va_iald hx hb hK hP 3 0 (f := sMo.2.2.1 15) a_Mo_15 rfl (vpb_in g36) dX11_doesFit_145 ?_
      refine lv_topi (fun v37 ev37 => ?_)
      have hf := lz_s hf v37 ev37
      refine lv_icmp_ne (tgt := 153) hx hb dX11_doesFit_146 (by decide) (fun c38 => ?_) (fun c38 => ?_)
      · have hf := it_f hf c38
        refine lv_iconst (v := (0 : Int32)) hx hb dX11_doesFit_153 (by decide) ?_
        have e9 := Option.some.inj hf
        rw [hQ]
        exact W.zret (v := (0 : Int32)) hx hb hr rfl (fun t ht hW => ⟨⟨(0 : Int32), (), rfl, e9, trivial⟩, hS.F ht⟩) hS.2.2 dX11_doesFit_154
      · have hf := it_t hf c38
        refine lv_iconst (v := (1 : Int32)) hx hb dX11_doesFit_149 (by decide) ?_
        refine lv_goto (tgt := 154) hx hb dX11_doesFit_150 (by decide) ?_
        have e9 := Option.some.inj hf
        rw [hQ]
        exact W.zret (v := (1 : Int32)) hx hb hr rfl (fun t ht hW => ⟨⟨(1 : Int32), (), rfl, e9, trivial⟩, hS.F ht⟩) hS.2.2 dX11_doesFit_154
  have w123 : ∀ (k35 : Int32 → Option Int32), (∀ (x5 : Int32), ∀ (H : Heap) (locs : List Loc) (ls : Array Slot), k35 x5 = some res → va_P D vwCl (wMo K hMo sMo) H → va_S nOne s.heap H locs → lv_has ls 8 [(0, .ref (hMo 99)), (1, .int p1), (2, .int p2), (3, .int p3), (4, .int p4), (5, .int x5)] → W p l e (headSpec wz_X11_doesFit (r_X11_doesFit (d + 1))).room s m args below meth c H locs 0 0 Q (F0 m 35 ls [])) → ∀ (x5 : Int32), ∀ (H : Heap) (locs : List Loc) (ls : Array Slot), f_X11_doesFit_123 F sMo p1 p2 p3 p4 rc k35 x5 = some res → va_P D vwCl (wMo K hMo sMo) H → va_S nOne s.heap H locs → lv_has ls 8 [(0, .ref (hMo 99)), (1, .int p1), (2, .int p2), (3, .int p3), (4, .int p4), (5, .int x5)] → W p l e (headSpec wz_X11_doesFit (r_X11_doesFit (d + 1))).room s m args below meth c H locs 0 0 Q (F0 m 123 ls []) := by
    intro k35 hk35 x5 H locs ls hf hP hS hl
    unfold f_X11_doesFit_123 at hf
    obtain ⟨v26, ev26⟩ : ∃ z : Int32, z = x5 + (1 : Int32) := ⟨_, rfl⟩
    have hf := lz_s hf v26 ev26
    refine lv_iinc (v := v26) (lv' := [(5, .int v26), (0, .ref (hMo 99)), (1, .int p1), (2, .int p2), (3, .int p3), (4, .int p4)]) hx hb dX11_doesFit_123 hl (k := 5) rfl (by rw [ev26]; rfl) (by decide) rfl (fun ls hl => ?_)
    refine lv_goto (tgt := 35) hx hb dX11_doesFit_126 (by decide) ?_
    exact hk35 v26 H locs ls hf hP hS (lv_sub hl [1, 2, 3, 4, 5, 0] rfl)
  have w35 : ∀ (n : Nat), ∀ (x5 : Int32), ∀ (H : Heap) (locs : List Loc) (ls : Array Slot), f_X11_doesFit_35 F sMo p1 p2 p3 p4 rc n x5 = some res → va_P D vwCl (wMo K hMo sMo) H → va_S nOne s.heap H locs → lv_has ls 8 [(0, .ref (hMo 99)), (1, .int p1), (2, .int p2), (3, .int p3), (4, .int p4), (5, .int x5)] → W p l e (headSpec wz_X11_doesFit (r_X11_doesFit (d + 1))).room s m args below meth c H locs 0 0 Q (F0 m 35 ls []) := by
    intro n
    induction n with
    | zero =>
      intro x5 H locs ls hf
      exact absurd (show none = some res from hf) (fun h => nomatch h)
    | succ n ih =>
      intro x5 H locs ls hf hP hS hl
      rw [f_X11_doesFit_35] at hf
      refine lv_iload hx hb dX11_doesFit_35 (lv_at hl 5 rfl) ?_
      refine lv_iconst (v := (2 : Int32)) hx hb dX11_doesFit_37 (by decide) ?_
      refine lv_icmp_ge (tgt := 129) hx hb dX11_doesFit_38 (by decide) (fun c9 => ?_) (fun c9 => ?_)
      · have hf := it_t hf c9
        refine lv_iconst (v := (0 : Int32)) hx hb dX11_doesFit_129 (by decide) ?_
        have e9 := Option.some.inj hf
        rw [hQ]
        exact W.zret (v := (0 : Int32)) hx hb hr rfl (fun t ht hW => ⟨⟨(0 : Int32), (), rfl, e9, trivial⟩, hS.F ht⟩) hS.2.2 dX11_doesFit_130
      · have hf := it_f hf c9
        refine lv_aload_n hx hb dX11_doesFit_41 rfl (lv_at hl 0 rfl) ?_
        refine lv_aload_n hx hb dX11_doesFit_42 rfl (lv_at hl 0 rfl) ?_
        refine va_get (D := D) (ci := 10) (v := .ref (hMo 33)) (C := RX11) (T := TX11) (N := 41) hx hb hts iX11 hown hK hP 0 o_Mo rfl 33 (by decide) (htl _ (mB6 _ (List.mem_of_getElem? (i := 16) rfl))) (fun _ h9 => h9) rfl dX11_doesFit_43 ?_
        refine lv_iload_n hx hb dX11_doesFit_46 rfl (lv_at hl 2 rfl) ?_
        obtain ⟨g10, hf⟩ := gd_s hf
        refine va_iald hx hb hK hP 16 0 (f := sMo.2.2.1 33) a_Mo_33 rfl (vpb_in g10) dX11_doesFit_47 ?_
        refine lv_topi (fun v11 ev11 => ?_)
        have hf := lz_s hf v11 ev11
        refine lv_iload hx hb dX11_doesFit_48 (lv_at hl 5 rfl) ?_
        obtain ⟨o12, go12, hf⟩ := bd_s hf
        refine ro_Vi (As := [.int v11, .int x5]) (rest := []) ⟨hx, hb, hml, hown, hts⟩ (c_X11_pumpOf l D K F hMo sMo v11 x5 o12 go12) (cwV 2 hts (gcV_X11_pumpOf (mB23 _ (List.mem_of_getElem? (i := 9) rfl))) rfl rfl rfl hdV_X11_pumpOf ⟨Nat.le_trans (Nat.le_of_ble_eq_true rfl) (Nat.le_add_left 1 (d + 1)), Nat.le_trans (Nat.le_of_ble_eq_true rfl) (Nat.le_add_left 22 ((d + 1) * 27))⟩) hK hP hS hP (va_recv hK hP (ci := 10) (q0 := 0) rfl o_Mo) rfl hl.1 rfl (Nat.le_of_ble_eq_true rfl) dX11_doesFit_50 ⟨Nat.zero_le _, Nat.zero_le _⟩ (fun H locs hP hS => ?_)
        refine lv_istore (lv' := [(6, .int o12), (0, .ref (hMo 99)), (1, .int p1), (2, .int p2), (3, .int p3), (4, .int p4), (5, .int x5)]) hx hb dX11_doesFit_53 hl (by decide) rfl (fun ls hl => ?_)
        refine lv_aload_n hx hb dX11_doesFit_55 rfl (lv_at hl 1 rfl) ?_
        refine va_get (D := D) (ci := 10) (v := .ref (hMo 15)) (C := RX11) (T := TX11) (N := 41) hx hb hts iX11 hown hK hP 0 o_Mo rfl 15 (by decide) (htl _ (mB6 _ (List.mem_of_getElem? (i := 3) rfl))) (fun _ h9 => h9) rfl dX11_doesFit_56 ?_
        refine lv_sipush (v := (209 : Int32)) hx hb dX11_doesFit_59 (by decide) ?_
        refine lv_iconst (v := (2 : Int32)) hx hb dX11_doesFit_62 (by decide) ?_
        refine lv_iload_n hx hb dX11_doesFit_63 rfl (lv_at hl 4 rfl) ?_
        refine lv_imul hx hb dX11_doesFit_64 ?_
        refine lv_iadd hx hb dX11_doesFit_65 ?_
        refine lv_iconst (v := (1 : Int32)) hx hb dX11_doesFit_66 (by decide) ?_
        refine lv_iadd hx hb dX11_doesFit_67 ?_
        refine lv_topi (fun v13 ev13 => ?_)
        have hf := lz_s hf v13 ev13
        obtain ⟨g14, hf⟩ := gd_s hf
        refine va_iald hx hb hK hP 3 0 (f := sMo.2.2.1 15) a_Mo_15 rfl (vpb_in g14) dX11_doesFit_68 ?_
        refine lv_topi (fun v15 ev15 => ?_)
        have hf := lz_s hf v15 ev15
        refine lv_istore (lv' := [(7, .int v15), (6, .int o12), (0, .ref (hMo 99)), (1, .int p1), (2, .int p2), (3, .int p3), (4, .int p4), (5, .int x5)]) hx hb dX11_doesFit_69 hl (by decide) rfl (fun ls hl => ?_)
        refine lv_iload hx hb dX11_doesFit_71 (lv_at hl 1 rfl) ?_
        refine lv_if_le (tgt := 123) hx hb dX11_doesFit_73 (by decide) (fun c16 => ?_) (fun c16 => ?_)
        · have hf := it_t hf c16
          exact w123 (f_X11_doesFit_35 F sMo p1 p2 p3 p4 rc n) ih x5 H locs ls hf hP hS (lv_sub hl [2, 3, 4, 5, 6, 7] rfl)
        · have hf := it_f hf c16
          refine lv_iload hx hb dX11_doesFit_76 (lv_at hl 0 rfl) ?_
          refine lv_iload hx hb dX11_doesFit_78 (lv_at hl 1 rfl) ?_
          obtain ⟨g17, hf⟩ := gd_s hf
          refine lv_irem hx hb dX11_doesFit_80 (nzb_s g17) ?_
          refine lv_if_ne (tgt := 123) hx hb dX11_doesFit_81 (by decide) (fun c18 => ?_) (fun c18 => ?_)
          · have hf := it_f hf c18
            exact w123 (f_X11_doesFit_35 F sMo p1 p2 p3 p4 rc n) ih x5 H locs ls hf hP hS (lv_sub hl [2, 3, 4, 5, 6, 7] rfl)
          · have hf := it_t hf c18
            refine lv_iload hx hb dX11_doesFit_84 (lv_at hl 6 rfl) ?_
            refine lv_iload hx hb dX11_doesFit_86 (lv_at hl 0 rfl) ?_
            refine lv_iload hx hb dX11_doesFit_88 (lv_at hl 1 rfl) ?_
            obtain ⟨g19, hf⟩ := gd_s hf
            refine lv_idiv hx hb dX11_doesFit_90 (nzb_s g19) ?_
            refine lv_iadd hx hb dX11_doesFit_91 ?_
            refine lv_aload_n hx hb dX11_doesFit_92 rfl (lv_at hl 2 rfl) ?_
            refine va_get (D := D) (ci := 10) (v := .ref (hMo 15)) (C := RX11) (T := TX11) (N := 41) hx hb hts iX11 hown hK hP 0 o_Mo rfl 15 (by decide) (htl _ (mB6 _ (List.mem_of_getElem? (i := 3) rfl))) (fun _ h9 => h9) rfl dX11_doesFit_93 ?_
            refine lv_iconst (v := (0 : Int32)) hx hb dX11_doesFit_96 (by decide) ?_
            obtain ⟨g20, hf⟩ := gd_s hf
            refine va_iald hx hb hK hP 3 0 (f := sMo.2.2.1 15) a_Mo_15 rfl (vpb_in g20) dX11_doesFit_97 ?_
            refine lv_topi (fun v21 ev21 => ?_)
            have hf := lz_s hf v21 ev21
            refine lv_icmp_gt (tgt := 123) hx hb dX11_doesFit_98 (by decide) (fun c22 => ?_) (fun c22 => ?_)
            · have hf := it_t hf c22
              exact w123 (f_X11_doesFit_35 F sMo p1 p2 p3 p4 rc n) ih x5 H locs ls hf hP hS (lv_sub hl [2, 3, 4, 5, 6, 7] rfl)
            · have hf := it_f hf c22
              refine lv_aload_n hx hb dX11_doesFit_101 rfl (lv_at hl 2 rfl) ?_
              refine lv_iload_n hx hb dX11_doesFit_102 rfl (lv_at hl 3 rfl) ?_
              refine lv_iload_n hx hb dX11_doesFit_103 rfl (lv_at hl 4 rfl) ?_
              refine lv_iload_n hx hb dX11_doesFit_104 rfl (lv_at hl 5 rfl) ?_
              refine lv_iconst (v := (1 : Int32)) hx hb dX11_doesFit_105 (by decide) ?_
              refine lv_iadd hx hb dX11_doesFit_106 ?_
              refine lv_iload hx hb dX11_doesFit_107 (lv_at hl 6 rfl) ?_
              refine lv_iload hx hb dX11_doesFit_109 (lv_at hl 0 rfl) ?_
              refine lv_iload hx hb dX11_doesFit_111 (lv_at hl 1 rfl) ?_
              obtain ⟨g23, hf⟩ := gd_s hf
              refine lv_idiv hx hb dX11_doesFit_113 (nzb_s g23) ?_
              refine lv_iadd hx hb dX11_doesFit_114 ?_
              obtain ⟨o24, go24, hf⟩ := bd_s hf
              refine ro_Vi (As := [.int p1, .int p2, .int (p3 + (1 : Int32)), .int (p4 + (v15 / o12))]) (rest := []) ⟨hx, hb, hml, hown, hts⟩ (ih0 p1 p2 (p3 + (1 : Int32)) (p4 + (v15 / o12)) o24 go24) (cwV 4 hts (gV (mB57 _ (List.mem_of_getElem? (i := 17) rfl)) (mB57 _ (List.mem_of_getElem? (i := 18) rfl)) (mB57 _ (List.mem_of_getElem? (i := 19) rfl)) (mB1 _ (List.mem_of_getElem? (i := 5) rfl)) (mB57 _ (List.mem_of_getElem? (i := 20) rfl))) rfl rfl rfl hdV_X11_doesFit ⟨by show d + 1 + 1 ≤ d + 1 + 1; omega, by show 8 + (8 + 11) + (d * 27 + 22) ≤ (d + 1) * 27 + 22; omega⟩) hK hP hS hP (va_recv hK hP (ci := 10) (q0 := 0) rfl o_Mo) rfl hl.1 rfl (Nat.le_of_ble_eq_true rfl) dX11_doesFit_115 ⟨Nat.zero_le _, Nat.zero_le _⟩ (fun H locs hP hS => ?_)
              refine lv_if_eq (tgt := 123) hx hb dX11_doesFit_118 (by decide) (fun c25 => ?_) (fun c25 => ?_)
              · have hf := it_t hf c25
                exact w123 (f_X11_doesFit_35 F sMo p1 p2 p3 p4 rc n) ih x5 H locs ls hf hP hS (lv_sub hl [2, 3, 4, 5, 6, 7] rfl)
              · have hf := it_f hf c25
                refine lv_iconst (v := (1 : Int32)) hx hb dX11_doesFit_121 (by decide) ?_
                have e9 := Option.some.inj hf
                rw [hQ]
                exact W.zret (v := (1 : Int32)) hx hb hr rfl (fun t ht hW => ⟨⟨(1 : Int32), (), rfl, e9, trivial⟩, hS.F ht⟩) hS.2.2 dX11_doesFit_122
  have hen : entryFrame m args 8 = entryFrame m (([.ref (hMo 99), .int p1, .int p2, .int p3, .int p4] : List Value).toArray) 8 := by rw [hargs]
  have hl := lv_entry ([.ref (hMo 99), .int p1, .int p2, .int p3, .int p4]) (n := 8) (Nat.le_of_ble_eq_true rfl)
  rw [hen, lg_entry_eq]
  generalize (lg_sl ([.ref (hMo 99), .int p1, .int p2, .int p3, .int p4]) ++ List.replicate (8 - (lg_sl ([.ref (hMo 99), .int p1, .int p2, .int p3, .int p4])).length) Slot.unset).toArray = ls at hl ⊢
  have hl : lv_has ls 8 [(0, .ref (hMo 99)), (1, .int p1), (2, .int p2), (3, .int p3), (4, .int p4)] := hl
  unfold f_X11_doesFit_b at hf
  obtain ⟨H, hHe⟩ : ∃ z, z = s.heap := ⟨_, rfl⟩
  obtain ⟨locs, hLe⟩ : ∃ z : List Loc, z = [] := ⟨_, rfl⟩
  rw [← hLe]
  have hS : va_S nOne s.heap H locs := by rw [hHe, hLe]; exact hS
  have hP : va_P D vwCl (wMo K hMo sMo) H := by rw [hHe]; exact hP
  have hgo : W p l e (headSpec wz_X11_doesFit (r_X11_doesFit (d + 1))).room s m args below meth c H locs 0 0 Q (F0 m 0 ls []) := by
    refine lv_iload_n hx hb dX11_doesFit_0 rfl (lv_at hl 3 rfl) ?_
    refine lv_aload_n hx hb dX11_doesFit_1 rfl (lv_at hl 0 rfl) ?_
    refine va_get (D := D) (ci := 10) (v := .ref (hMo 15)) (C := RX11) (T := TX11) (N := 41) hx hb hts iX11 hown hK hP 0 o_Mo rfl 15 (by decide) (htl _ (mB6 _ (List.mem_of_getElem? (i := 3) rfl))) (fun _ h9 => h9) rfl dX11_doesFit_2 ?_
    refine lv_bipush (v := (9 : Int32)) hx hb dX11_doesFit_5 (by decide) ?_
    obtain ⟨g1, hf⟩ := gd_s hf
    refine va_iald hx hb hK hP 3 0 (f := sMo.2.2.1 15) a_Mo_15 rfl (vpb_in g1) dX11_doesFit_7 ?_
    refine lv_topi (fun v2 ev2 => ?_)
    have hf := lz_s hf v2 ev2
    refine lv_icmp_ge (tgt := 131) hx hb dX11_doesFit_8 (by decide) (fun c3 => ?_) (fun c3 => ?_)
    · have hf := it_t hf c3
      exact w131  H locs ls hf hP hS (lv_sub hl [0, 1, 2, 3, 4] rfl)
    · have hf := it_f hf c3
      refine lv_aload_n hx hb dX11_doesFit_11 rfl (lv_at hl 0 rfl) ?_
      refine va_get (D := D) (ci := 10) (v := .ref (hMo 15)) (C := RX11) (T := TX11) (N := 41) hx hb hts iX11 hown hK hP 0 o_Mo rfl 15 (by decide) (htl _ (mB6 _ (List.mem_of_getElem? (i := 3) rfl))) (fun _ h9 => h9) rfl dX11_doesFit_12 ?_
      refine lv_sipush (v := (209 : Int32)) hx hb dX11_doesFit_15 (by decide) ?_
      refine lv_iconst (v := (2 : Int32)) hx hb dX11_doesFit_18 (by decide) ?_
      refine lv_iload_n hx hb dX11_doesFit_19 rfl (lv_at hl 3 rfl) ?_
      refine lv_imul hx hb dX11_doesFit_20 ?_
      refine lv_iadd hx hb dX11_doesFit_21 ?_
      obtain ⟨g4, hf⟩ := gd_s hf
      refine va_iald hx hb hK hP 3 0 (f := sMo.2.2.1 15) a_Mo_15 rfl (vpb_in g4) dX11_doesFit_22 ?_
      refine lv_topi (fun v5 ev5 => ?_)
      have hf := lz_s hf v5 ev5
      refine lv_aload_n hx hb dX11_doesFit_23 rfl (lv_at hl 0 rfl) ?_
      refine va_get (D := D) (ci := 10) (v := .ref (hMo 33)) (C := RX11) (T := TX11) (N := 41) hx hb hts iX11 hown hK hP 0 o_Mo rfl 33 (by decide) (htl _ (mB6 _ (List.mem_of_getElem? (i := 16) rfl))) (fun _ h9 => h9) rfl dX11_doesFit_24 ?_
      refine lv_iload_n hx hb dX11_doesFit_27 rfl (lv_at hl 2 rfl) ?_
      obtain ⟨g6, hf⟩ := gd_s hf
      refine va_iald hx hb hK hP 16 0 (f := sMo.2.2.1 33) a_Mo_33 rfl (vpb_in g6) dX11_doesFit_28 ?_
      refine lv_topi (fun v7 ev7 => ?_)
      have hf := lz_s hf v7 ev7
      refine lv_icmp_ne (tgt := 131) hx hb dX11_doesFit_29 (by decide) (fun c8 => ?_) (fun c8 => ?_)
      · have hf := it_f hf c8
        exact w131  H locs ls hf hP hS (lv_sub hl [0, 1, 2, 3, 4] rfl)
      · have hf := it_t hf c8
        refine lv_iconst (v := (0 : Int32)) hx hb dX11_doesFit_32 (by decide) ?_
        refine lv_istore (lv' := [(5, .int (0 : Int32)), (0, .ref (hMo 99)), (1, .int p1), (2, .int p2), (3, .int p3), (4, .int p4)]) hx hb dX11_doesFit_33 hl (by decide) rfl (fun ls hl => ?_)
        exact w35 F (0 : Int32) H locs ls hf hP hS (lv_sub hl [1, 2, 3, 4, 5, 0] rfl)
  rw [hHe] at hgo
  exact hgo
theorem c_X11_doesFit (l : Launch) (D : va_G) (K : Nat → ClassId) (F : Nat) (hMo : Nat → Nat) (sMo : MS) : ∀ (d : Nat) (p1 : Int32) (p2 : Int32) (p3 : Int32) (p4 : Int32) (res : Int32), f_X11_doesFit F sMo d p1 p2 p3 p4 = some res → Met l yX11_doesFit wz_X11_doesFit (r_X11_doesFit d) (va_Pc [.ref (hMo 99), .int p1, .int p2, .int p3, .int p4] (PR D K (wMo K hMo sMo))) (va_Qi (fun r (_ : Unit) => r = res) BN nOne) 0 0 nOne := by
  intro d
  induction d with
  | zero =>
    intro p1 p2 p3 p4 res hf
    exact absurd (show none = some res from hf) (fun h => nomatch h)
  | succ d ih =>
    intro p1 p2 p3 p4 res hf
    rw [f_X11_doesFit] at hf
    exact cs_X11_doesFit l D K F hMo sMo d _ ih p1 p2 p3 p4 res hf
