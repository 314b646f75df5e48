theorem gcV_X7_readCar {T0 : Cond} {own : String} {i : Nat} (h : Cond.methodLink own i yX7_readCar ∈ wsL_law) : GoodIn (T0 :: wsL_law) (wsV own i RX7 yX7_readCar wz_X7_readCar) := gV h (mB12 _ (List.mem_of_getElem? (i := 14) rfl)) (mB12 _ (List.mem_of_getElem? (i := 15) rfl)) (mB1 _ (List.mem_of_getElem? (i := 22) rfl)) (mB12 _ (List.mem_of_getElem? (i := 16) rfl))
theorem hdV_X7_readCar : yX7_readCar.cls = RX7 ∧ yX7_readCar.cls ≠ "java/lang/invoke/MethodHandle" ∧ yX7_readCar.cls ≠ "java/lang/invoke/VarHandle" ∧ (parseMethodDescriptor yX7_readCar.desc).map (fun d => d.parameters.length) = some 0 := by decide +kernel
theorem gcV_X7_readReceipt {T0 : Cond} {own : String} {i : Nat} (h : Cond.methodLink own i yX7_readReceipt ∈ wsL_law) : GoodIn (T0 :: wsL_law) (wsV own i RX7 yX7_readReceipt wz_X7_readReceipt) := gV h (mB15 _ (List.mem_of_getElem? (i := 22) rfl)) (mB15 _ (List.mem_of_getElem? (i := 23) rfl)) (mB1 _ (List.mem_of_getElem? (i := 22) rfl)) (mB16 _ (List.mem_of_getElem? (i := 0) rfl))
theorem hdV_X7_readReceipt : yX7_readReceipt.cls = RX7 ∧ yX7_readReceipt.cls ≠ "java/lang/invoke/MethodHandle" ∧ yX7_readReceipt.cls ≠ "java/lang/invoke/VarHandle" ∧ (parseMethodDescriptor yX7_readReceipt.desc).map (fun d => d.parameters.length) = some 0 := by decide +kernel
theorem gcV_X9_isTold {T0 : Cond} {own : String} {i : Nat} (h : Cond.methodLink own i yX9_isTold ∈ wsL_law) : GoodIn (T0 :: wsL_law) (wsV own i RX9 yX9_isTold wz_X9_isTold) := gV h (mB15 _ (List.mem_of_getElem? (i := 10) rfl)) (mB15 _ (List.mem_of_getElem? (i := 11) rfl)) (mB1 _ (List.mem_of_getElem? (i := 17) rfl)) (mB15 _ (List.mem_of_getElem? (i := 12) rfl))
theorem hdV_X9_isTold : yX9_isTold.cls = RX9 ∧ yX9_isTold.cls ≠ "java/lang/invoke/MethodHandle" ∧ yX9_isTold.cls ≠ "java/lang/invoke/VarHandle" ∧ (parseMethodDescriptor yX9_isTold.desc).map (fun d => d.parameters.length) = some 0 := by decide +kernel
theorem gcV_X7_readWay {T0 : Cond} {own : String} {i : Nat} (h : Cond.methodLink own i yX7_readWay ∈ wsL_law) : GoodIn (T0 :: wsL_law) (wsV own i RX7 yX7_readWay wz_X7_readWay) := gV h (mB15 _ (List.mem_of_getElem? (i := 14) rfl)) (mB15 _ (List.mem_of_getElem? (i := 15) rfl)) (mB1 _ (List.mem_of_getElem? (i := 22) rfl)) (mB15 _ (List.mem_of_getElem? (i := 16) rfl))
theorem hdV_X7_readWay : yX7_readWay.cls = RX7 ∧ yX7_readWay.cls ≠ "java/lang/invoke/MethodHandle" ∧ yX7_readWay.cls ≠ "java/lang/invoke/VarHandle" ∧ (parseMethodDescriptor yX7_readWay.desc).map (fun d => d.parameters.length) = some 0 := by decide +kernel
theorem gcV_X7_readPump {T0 : Cond} {own : String} {i : Nat} (h : Cond.methodLink own i yX7_readPump ∈ wsL_law) : GoodIn (T0 :: wsL_law) (wsV own i RX7 yX7_readPump wz_X7_readPump) := gV h (mB15 _ (List.mem_of_getElem? (i := 3) rfl)) (mB15 _ (List.mem_of_getElem? (i := 4) rfl)) (mB1 _ (List.mem_of_getElem? (i := 22) rfl)) (mB15 _ (List.mem_of_getElem? (i := 5) rfl))
theorem hdV_X7_readPump : yX7_readPump.cls = RX7 ∧ yX7_readPump.cls ≠ "java/lang/invoke/MethodHandle" ∧ yX7_readPump.cls ≠ "java/lang/invoke/VarHandle" ∧ (parseMethodDescriptor yX7_readPump.desc).map (fun d => d.parameters.length) = some 0 := by decide +kernel
theorem gcV_X7_readRoadBetween {T0 : Cond} {own : String} {i : Nat} (h : Cond.methodLink own i yX7_readRoadBetween ∈ wsL_law) : GoodIn (T0 :: wsL_law) (wsV own i RX7 yX7_readRoadBetween wz_X7_readRoadBetween) := gV h (mB14 _ (List.mem_of_getElem? (i := 7) rfl)) (mB14 _ (List.mem_of_getElem? (i := 8) rfl)) (mB1 _ (List.mem_of_getElem? (i := 22) rfl)) (mB14 _ (List.mem_of_getElem? (i := 9) rfl))
theorem hdV_X7_readRoadBetween : yX7_readRoadBetween.cls = RX7 ∧ yX7_readRoadBetween.cls ≠ "java/lang/invoke/MethodHandle" ∧ yX7_readRoadBetween.cls ≠ "java/lang/invoke/VarHandle" ∧ (parseMethodDescriptor yX7_readRoadBetween.desc).map (fun d => d.parameters.length) = some 0 := by decide +kernel
theorem gcV_X7_readPlace {T0 : Cond} {own : String} {i : Nat} (h : Cond.methodLink own i yX7_readPlace ∈ wsL_law) : GoodIn (T0 :: wsL_law) (wsV own i RX7 yX7_readPlace wz_X7_readPlace) := gV h (mB13 _ (List.mem_of_getElem? (i := 15) rfl)) (mB13 _ (List.mem_of_getElem? (i := 16) rfl)) (mB1 _ (List.mem_of_getElem? (i := 22) rfl)) (mB13 _ (List.mem_of_getElem? (i := 17) rfl))
theorem hdV_X7_readPlace : yX7_readPlace.cls = RX7 ∧ yX7_readPlace.cls ≠ "java/lang/invoke/MethodHandle" ∧ yX7_readPlace.cls ≠ "java/lang/invoke/VarHandle" ∧ (parseMethodDescriptor yX7_readPlace.desc).map (fun d => d.parameters.length) = some 0 := by decide +kernel
def wz_X7_readLine : List Cond := .code yX7_readLine cX7_readLine 1 (some .boolean) :: wsL_law
abbrev r_X7_readLine : Room := { frames := 8, cells := 0, slots := 0, locals := 171 }
set_option maxHeartbeats 4000000 in
set_option maxRecDepth 100000 in
theorem c_X7_readLine (l : Launch) (D : va_G) (K : Nat → ClassId) (F : Nat) (adK adV : Nat → Nat) (tF : Nat) (hRd : Nat → Nat) (aTp nTp : Nat) (hRo : Nat → Nat) (sz : Nat) (sRd : MS) (fTp : (Nat → Int32)) (sRo : MS) (res : Int32 × MS × MS) (hf : f_X7_readLine F nTp fTp sRd sRo = some res) : Met l yX7_readLine wz_X7_readLine r_X7_readLine (va_Pc [.ref (hRd 99)] (PWz D K adK adV tF (wRd K hRd aTp (hRo 99) sRd ++ wAB K aTp nTp fTp ++ wRo K hRo sRo) sz)) (va_Qi (fun r u => r = res.1 ∧ u = res.2) (fun u t => BW D K (va_A (wRd K hRd aTp (hRo 99) sRd ++ wAB K aTp nTp fTp ++ wRo K hRo sRo) sz) (wRd K hRd aTp (hRo 99) u.1 ++ wAB K aTp nTp fTp ++ wRo K hRo u.2) t) (va_A (wRd K hRd aTp (hRo 99) sRd ++ wAB K aTp nTp fTp ++ wRo K hRo sRo) sz)) 0 0 (va_A (wRd K hRd aTp (hRo 99) sRd ++ wAB K aTp nTp fTp ++ wRo K hRo sRo) sz) := by
  refine Met.ofW (cc := cX7_readLine) (maxL := 1) (ret := (some .boolean)) (by decide) rfl ?_
  intro p e s m args below meth c s₁ B hml hv
  obtain ⟨hargs, ⟨hsz, hP, hK, hD0⟩, hZ⟩ := hv
  have hx := B.exec
  have hb := B.bytes
  have hr := B.returns
  have hts := atoms_spec (ws := wz_X7_readLine) B.pre
  have htl : ∀ w ∈ wsL_law, w.before args s = true := fun w h => hts w (List.mem_cons_of_mem _ h)
  have hown : s.vm.findClass RX7 = some m.cls := findClass_of_methodNamed B.named
  have hlocks := B.notSynchronized
  subst hsz
  have hD := hD0.self (sz := s.heap.size)
  generalize hAe : va_A (wRd K hRd aTp (hRo 99) sRd ++ wAB K aTp nTp fTp ++ wRo K hRo sRo) s.heap.size = A at hD hZ ⊢
  have hA : ∀ q : Nat, s.heap.size ≤ q → A q := fun q h => by rw [← hAe]; exact Or.inr h
  have hS : va_S A s.heap s.heap [] := va_S.rf
  have iX7 : ∀ w ∈ wsX70, w ∈ wz_X7_readLine := fun w h => List.mem_cons_of_mem _ (inlX7 w h)
  have iX9 : ∀ w ∈ wsX90, w ∈ wz_X7_readLine := fun w h => List.mem_cons_of_mem _ (inlX9 w h)
  suffices hgo : ∀ Q : State → Prop, Q = MQ below (va_Qi (fun r u => r = res.1 ∧ u = res.2) (fun u t => BW D K A (wRd K hRd aTp (hRo 99) u.1 ++ wAB K aTp nTp fTp ++ wRo K hRo u.2) t) A) args s 0 0 A → W p l e (headSpec wz_X7_readLine r_X7_readLine).room s m args below meth c s.heap [] 0 0 Q (entryFrame m args 1) from hgo _ rfl
  intro Q hQ
  have w83 : ∀ (sRd : MS), ∀ (sRo : MS), ∀ (H : Heap) (locs : List Loc) (ls : Array Slot), f_X7_readLine_83 F nTp fTp sRd sRo = some res → va_P D vwCl (wRd K hRd aTp (hRo 99) sRd ++ wAB K aTp nTp fTp ++ wRo K hRo sRo) H → va_D A (wRd K hRd aTp (hRo 99) sRd ++ wAB K aTp nTp fTp ++ wRo K hRo sRo) → va_S A s.heap H locs → lv_has ls 1 [(0, .ref (hRd 99))] → W p l e (headSpec wz_X7_readLine r_X7_readLine).room s m args below meth c H locs 0 0 Q (F0 m 83 ls []) := by
    intro sRd sRo H locs ls hf hP hD hS hl
    unfold f_X7_readLine_83 at hf
    refine lv_aload_n hx hb dX7_readLine_83 rfl (lv_at hl 0 rfl) ?_
    refine va_get (D := D) (ci := 6) (v := .ref (hRo 99)) (C := RX7) (T := TX7) (N := 11) hx hb hts iX7 hown hK hP 0 (rwl (rwl o_Rd)) rfl 4 (by decide) (htl _ (mB3 _ (List.mem_of_getElem? (i := 18) rfl))) (fun _ h9 => h9) rfl dX7_readLine_84 ?_
    refine va_get (D := D) (ci := 8) (v := .int (sRo.1 0)) (C := RX9) (T := TX9) (N := 19) hx hb hts iX9 hown hK hP ((3 + 1) + 0) (rwr (lnA ln_Rd ln_AB) o_Ro) rfl 0 (by decide) (htl _ (mB9 _ (List.mem_of_getElem? (i := 19) rfl))) (fun _ h9 => h9) rfl dX7_readLine_87 ?_
    refine lv_if_ne (tgt := 100) hx hb dX7_readLine_90 (by decide) (fun c20 => ?_) (fun c20 => ?_)
    · have hf := it_f hf c20
      refine lv_aload_n hx hb dX7_readLine_100 rfl (lv_at hl 0 rfl) ?_
      refine va_ldcS (own := RX7) (index := 78) (tx := "place") (q := adK 1) hx hb hown (hZ.2.2.2 (RX7, 78, "place", 1) (List.mem_of_getElem? (i := 16) rfl)) dX7_readLine_101 ?_
      obtain ⟨o21, go21, hf⟩ := bd_s hf
      refine ro_Viz (As := [.ref (adK 1)]) (rest := []) ⟨hx, hb, hml, hown, hts⟩ (c_X7_isWord l D K F adK adV tF hRd (hRo 99) aTp nTp sRd fTp 1 o21 go21) (cwV 1 hts (gcV_X7_isWord (mB10 _ (List.mem_of_getElem? (i := 0) rfl))) rfl rfl rfl hdV_X7_isWord ⟨Nat.le_of_ble_eq_true rfl, Nat.le_of_ble_eq_true rfl⟩) hK hP hS hZ (va_PL (cs := [wRd K hRd aTp (hRo 99) sRd, wAB K aTp nTp fTp, wRo K hRo sRo]) (cc := [wRd K hRd aTp (hRo 99) sRd, wAB K aTp nTp fTp]) hP (fl3 _ _ _) [0, 1] rfl (fl2 _ _)) (va_recv hK hP (ci := 6) (q0 := 0) rfl (rwl (rwl o_Rd))) rfl hl.1 rfl (Nat.le_of_ble_eq_true rfl) dX7_readLine_103 ⟨Nat.zero_le _, Nat.zero_le _⟩ (fun H locs hP hS => ?_)
      refine lv_if_eq (tgt := 134) hx hb dX7_readLine_106 (by decide) (fun c22 => ?_) (fun c22 => ?_)
      · have hf := it_t hf c22
        refine lv_aload_n hx hb dX7_readLine_134 rfl (lv_at hl 0 rfl) ?_
        refine va_ldcS (own := RX7) (index := 80) (tx := "road") (q := adK 2) hx hb hown (hZ.2.2.2 (RX7, 80, "road", 2) (List.mem_of_getElem? (i := 17) rfl)) dX7_readLine_135 ?_
        obtain ⟨o23, go23, hf⟩ := bd_s hf
        refine ro_Viz (As := [.ref (adK 2)]) (rest := []) ⟨hx, hb, hml, hown, hts⟩ (c_X7_isWord l D K F adK adV tF hRd (hRo 99) aTp nTp sRd fTp 2 o23 go23) (cwV 1 hts (gcV_X7_isWord (mB10 _ (List.mem_of_getElem? (i := 0) rfl))) rfl rfl rfl hdV_X7_isWord ⟨Nat.le_of_ble_eq_true rfl, Nat.le_of_ble_eq_true rfl⟩) hK hP hS hZ (va_PL (cs := [wRd K hRd aTp (hRo 99) sRd, wAB K aTp nTp fTp, wRo K hRo sRo]) (cc := [wRd K hRd aTp (hRo 99) sRd, wAB K aTp nTp fTp]) hP (fl3 _ _ _) [0, 1] rfl (fl2 _ _)) (va_recv hK hP (ci := 6) (q0 := 0) rfl (rwl (rwl o_Rd))) rfl hl.1 rfl (Nat.le_of_ble_eq_true rfl) dX7_readLine_137 ⟨Nat.zero_le _, Nat.zero_le _⟩ (fun H locs hP hS => ?_)
        refine lv_if_eq (tgt := 168) hx hb dX7_readLine_140 (by decide) (fun c24 => ?_) (fun c24 => ?_)
        · have hf := it_t hf c24
          refine lv_aload_n hx hb dX7_readLine_168 rfl (lv_at hl 0 rfl) ?_
          refine va_ldcS (own := RX7) (index := 81) (tx := "pump") (q := adK 3) hx hb hown (hZ.2.2.2 (RX7, 81, "pump", 3) (List.mem_of_getElem? (i := 18) rfl)) dX7_readLine_169 ?_
          obtain ⟨o25, go25, hf⟩ := bd_s hf
          refine ro_Viz (As := [.ref (adK 3)]) (rest := []) ⟨hx, hb, hml, hown, hts⟩ (c_X7_isWord l D K F adK adV tF hRd (hRo 99) aTp nTp sRd fTp 3 o25 go25) (cwV 1 hts (gcV_X7_isWord (mB10 _ (List.mem_of_getElem? (i := 0) rfl))) rfl rfl rfl hdV_X7_isWord ⟨Nat.le_of_ble_eq_true rfl, Nat.le_of_ble_eq_true rfl⟩) hK hP hS hZ (va_PL (cs := [wRd K hRd aTp (hRo 99) sRd, wAB K aTp nTp fTp, wRo K hRo sRo]) (cc := [wRd K hRd aTp (hRo 99) sRd, wAB K aTp nTp fTp]) hP (fl3 _ _ _) [0, 1] rfl (fl2 _ _)) (va_recv hK hP (ci := 6) (q0 := 0) rfl (rwl (rwl o_Rd))) rfl hl.1 rfl (Nat.le_of_ble_eq_true rfl) dX7_readLine_171 ⟨Nat.zero_le _, Nat.zero_le _⟩ (fun H locs hP hS => ?_)
          refine lv_if_eq (tgt := 202) hx hb dX7_readLine_174 (by decide) (fun c26 => ?_) (fun c26 => ?_)
          · have hf := it_t hf c26
            refine lv_aload_n hx hb dX7_readLine_202 rfl (lv_at hl 0 rfl) ?_
            refine va_ldcS (own := RX7) (index := 83) (tx := "way") (q := adK 4) hx hb hown (hZ.2.2.2 (RX7, 83, "way", 4) (List.mem_of_getElem? (i := 19) rfl)) dX7_readLine_203 ?_
            obtain ⟨o27, go27, hf⟩ := bd_s hf
            refine ro_Viz (As := [.ref (adK 4)]) (rest := []) ⟨hx, hb, hml, hown, hts⟩ (c_X7_isWord l D K F adK adV tF hRd (hRo 99) aTp nTp sRd fTp 4 o27 go27) (cwV 1 hts (gcV_X7_isWord (mB10 _ (List.mem_of_getElem? (i := 0) rfl))) rfl rfl rfl hdV_X7_isWord ⟨Nat.le_of_ble_eq_true rfl, Nat.le_of_ble_eq_true rfl⟩) hK hP hS hZ (va_PL (cs := [wRd K hRd aTp (hRo 99) sRd, wAB K aTp nTp fTp, wRo K hRo sRo]) (cc := [wRd K hRd aTp (hRo 99) sRd, wAB K aTp nTp fTp]) hP (fl3 _ _ _) [0, 1] rfl (fl2 _ _)) (va_recv hK hP (ci := 6) (q0 := 0) rfl (rwl (rwl o_Rd))) rfl hl.1 rfl (Nat.le_of_ble_eq_true rfl) dX7_readLine_205 ⟨Nat.zero_le _, Nat.zero_le _⟩ (fun H locs hP hS => ?_)
            refine lv_if_eq (tgt := 234) hx hb dX7_readLine_208 (by decide) (fun c28 => ?_) (fun c28 => ?_)
            · have hf := it_t hf c28
              refine lv_aload_n hx hb dX7_readLine_234 rfl (lv_at hl 0 rfl) ?_
              refine va_get (D := D) (ci := 6) (v := .ref (hRo 99)) (C := RX7) (T := TX7) (N := 11) hx hb hts iX7 hown hK hP 0 (rwl (rwl o_Rd)) rfl 4 (by decide) (htl _ (mB3 _ (List.mem_of_getElem? (i := 18) rfl))) (fun _ h9 => h9) rfl dX7_readLine_235 ?_
              refine va_get (D := D) (ci := 8) (v := .int (sRo.1 9)) (C := RX9) (T := TX9) (N := 19) hx hb hts iX9 hown hK hP ((3 + 1) + 0) (rwr (lnA ln_Rd ln_AB) o_Ro) rfl 9 (by decide) (htl _ (mB9 _ (List.mem_of_getElem? (i := 23) rfl))) (fun _ h9 => h9) rfl dX7_readLine_238 ?_
              refine lv_iconst (v := (5 : Int32)) hx hb dX7_readLine_241 (by decide) ?_
              refine lv_icmp_lt (tgt := 253) hx hb dX7_readLine_242 (by decide) (fun c29 => ?_) (fun c29 => ?_)
              · have hf := it_t hf c29
                refine lv_aload_n hx hb dX7_readLine_253 rfl (lv_at hl 0 rfl) ?_
                obtain ⟨o30, go30, hf⟩ := bd_s hf
                refine rs_Viz (As := []) (rest := []) ⟨hx, hb, hml, hown, hts⟩ (c_X7_readReceipt l D K F adK adV tF hRd aTp nTp hRo H.size sRd fTp sRo o30 go30) (cwV 0 hts (gcV_X7_readReceipt (mB15 _ (List.mem_of_getElem? (i := 21) rfl))) rfl rfl rfl hdV_X7_readReceipt ⟨Nat.le_of_ble_eq_true rfl, Nat.le_of_ble_eq_true rfl⟩) hK hP hD hS hA hZ (va_recv hK hP (ci := 6) (q0 := 0) rfl (rwl (rwl o_Rd))) rfl hl.1 rfl (Nat.le_of_ble_eq_true rfl) dX7_readLine_254 ⟨Nat.zero_le _, Nat.zero_le _⟩ (fun H locs hP hD hS => ?_)
                have hP : va_P D vwCl (wRd K hRd aTp (hRo 99) o30.2.1 ++ wAB K aTp nTp fTp ++ wRo K hRo o30.2.2) H := hP
                have hD : va_D A (wRd K hRd aTp (hRo 99) o30.2.1 ++ wAB K aTp nTp fTp ++ wRo K hRo o30.2.2) := hD
                obtain ⟨g31, hf⟩ := gd_s hf
                have e9 := Option.some.inj hf
                rw [hQ]
                exact W.zret (v := o30.1) hx hb hr (bob_s g31) (fun t ht hW => ⟨⟨o30.1, (o30.2.1, o30.2.2), rfl, ⟨pr1 e9, pr2 e9⟩, ⟨by rw [ht]; exact hP, va_K.moved hW.alike hK, hD⟩⟩, hS.F ht⟩) hS.2.2 dX7_readLine_257
              · have hf := it_f hf c29
                refine lv_aload_n hx hb dX7_readLine_245 rfl (lv_at hl 0 rfl) ?_
                refine lv_iconst (v := (5 : Int32)) hx hb dX7_readLine_246 (by decide) ?_
                obtain ⟨o32, go32, hf⟩ := bd_s hf
                refine rk_Vi (wn := wRd K hRd aTp (hRo 99) o32.2 ++ wAB K aTp nTp fTp ++ wRo K hRo sRo) [wRd K hRd aTp (hRo 99) sRd, wAB K aTp nTp fTp, wRo K hRo sRo] [wRd K hRd aTp (hRo 99) sRd] [wRd K hRd aTp (hRo 99) o32.2] [wRd K hRd aTp (hRo 99) o32.2, wAB K aTp nTp fTp, wRo K hRo sRo] (As := [.int (5 : Int32)]) (rest := []) ⟨hx, hb, hml, hown, hts⟩ (c_X7_failWith l D K F hRd aTp (hRo 99) H.size sRd (5 : Int32) o32 go32) (cwV 1 hts (gcV_X7_failWith (mB12 _ (List.mem_of_getElem? (i := 5) rfl))) rfl rfl rfl hdV_X7_failWith ⟨Nat.le_of_ble_eq_true rfl, Nat.le_of_ble_eq_true rfl⟩) hK hP hD hS hA [0] (fl3 _ _ _) rfl (by decide) (fl1 _) (fl1 _) rfl rfl (fl3 _ _ _) (va_recv hK hP (ci := 6) (q0 := 0) rfl (rwl (rwl o_Rd))) rfl hl.1 rfl (Nat.le_of_ble_eq_true rfl) dX7_readLine_247 ⟨Nat.zero_le _, Nat.zero_le _⟩ (fun H locs hP hD hS => ?_)
                have hP : va_P D vwCl (wRd K hRd aTp (hRo 99) o32.2 ++ wAB K aTp nTp fTp ++ wRo K hRo sRo) H := hP
                have hD : va_D A (wRd K hRd aTp (hRo 99) o32.2 ++ wAB K aTp nTp fTp ++ wRo K hRo sRo) := hD
                refine lv_goto (tgt := 257) hx hb dX7_readLine_250 (by decide) ?_
                obtain ⟨g33, hf⟩ := gd_s hf
                have e9 := Option.some.inj hf
                rw [hQ]
                exact W.zret (v := o32.1) hx hb hr (bob_s g33) (fun t ht hW => ⟨⟨o32.1, (o32.2, sRo), rfl, ⟨pr1 e9, pr2 e9⟩, ⟨by rw [ht]; exact hP, va_K.moved hW.alike hK, hD⟩⟩, hS.F ht⟩) hS.2.2 dX7_readLine_257
            · have hf := it_f hf c28
              refine lv_aload_n hx hb dX7_readLine_211 rfl (lv_at hl 0 rfl) ?_
              refine va_get (D := D) (ci := 6) (v := .ref (hRo 99)) (C := RX7) (T := TX7) (N := 11) hx hb hts iX7 hown hK hP 0 (rwl (rwl o_Rd)) rfl 4 (by decide) (htl _ (mB3 _ (List.mem_of_getElem? (i := 18) rfl))) (fun _ h9 => h9) rfl dX7_readLine_212 ?_
              obtain ⟨o34, go34, hf⟩ := bd_s hf
              refine ro_Vi (As := []) (rest := []) ⟨hx, hb, hml, hown, hts⟩ (c_X9_isTold l D K F hRo sRo o34 go34) (cwV 0 hts (gcV_X9_isTold (mB15 _ (List.mem_of_getElem? (i := 9) rfl))) rfl rfl rfl hdV_X9_isTold ⟨Nat.le_of_ble_eq_true rfl, Nat.le_of_ble_eq_true rfl⟩) hK hP hS (va_PL (cs := [wRd K hRd aTp (hRo 99) sRd, wAB K aTp nTp fTp, wRo K hRo sRo]) (cc := [wRo K hRo sRo]) hP (fl3 _ _ _) [2] rfl (fl1 _)) (va_recv hK hP (ci := 8) (q0 := ((3 + 1) + 0)) rfl (rwr (lnA ln_Rd ln_AB) o_Ro)) rfl hl.1 rfl (Nat.le_of_ble_eq_true rfl) dX7_readLine_215 ⟨Nat.zero_le _, Nat.zero_le _⟩ (fun H locs hP hS => ?_)
              refine lv_if_eq (tgt := 229) hx hb dX7_readLine_218 (by decide) (fun c35 => ?_) (fun c35 => ?_)
              · have hf := it_t hf c35
                refine lv_aload_n hx hb dX7_readLine_229 rfl (lv_at hl 0 rfl) ?_
                obtain ⟨o36, go36, hf⟩ := bd_s hf
                refine rs_Viz (As := []) (rest := []) ⟨hx, hb, hml, hown, hts⟩ (c_X7_readWay l D K F adK adV tF hRd aTp nTp hRo H.size sRd fTp sRo o36 go36) (cwV 0 hts (gcV_X7_readWay (mB15 _ (List.mem_of_getElem? (i := 13) rfl))) rfl rfl rfl hdV_X7_readWay ⟨Nat.le_of_ble_eq_true rfl, Nat.le_of_ble_eq_true rfl⟩) hK hP hD hS hA hZ (va_recv hK hP (ci := 6) (q0 := 0) rfl (rwl (rwl o_Rd))) rfl hl.1 rfl (Nat.le_of_ble_eq_true rfl) dX7_readLine_230 ⟨Nat.zero_le _, Nat.zero_le _⟩ (fun H locs hP hD hS => ?_)
                have hP : va_P D vwCl (wRd K hRd aTp (hRo 99) o36.2.1 ++ wAB K aTp nTp fTp ++ wRo K hRo o36.2.2) H := hP
                have hD : va_D A (wRd K hRd aTp (hRo 99) o36.2.1 ++ wAB K aTp nTp fTp ++ wRo K hRo o36.2.2) := hD
                obtain ⟨g37, hf⟩ := gd_s hf
                have e9 := Option.some.inj hf
                rw [hQ]
                exact W.zret (v := o36.1) hx hb hr (bob_s g37) (fun t ht hW => ⟨⟨o36.1, (o36.2.1, o36.2.2), rfl, ⟨pr1 e9, pr2 e9⟩, ⟨by rw [ht]; exact hP, va_K.moved hW.alike hK, hD⟩⟩, hS.F ht⟩) hS.2.2 dX7_readLine_233
              · have hf := it_f hf c35
                refine lv_aload_n hx hb dX7_readLine_221 rfl (lv_at hl 0 rfl) ?_
                refine lv_iconst (v := (3 : Int32)) hx hb dX7_readLine_222 (by decide) ?_
                obtain ⟨o38, go38, hf⟩ := bd_s hf
                refine rk_Vi (wn := wRd K hRd aTp (hRo 99) o38.2 ++ wAB K aTp nTp fTp ++ wRo K hRo sRo) [wRd K hRd aTp (hRo 99) sRd, wAB K aTp nTp fTp, wRo K hRo sRo] [wRd K hRd aTp (hRo 99) sRd] [wRd K hRd aTp (hRo 99) o38.2] [wRd K hRd aTp (hRo 99) o38.2, wAB K aTp nTp fTp, wRo K hRo sRo] (As := [.int (3 : Int32)]) (rest := []) ⟨hx, hb, hml, hown, hts⟩ (c_X7_failWith l D K F hRd aTp (hRo 99) H.size sRd (3 : Int32) o38 go38) (cwV 1 hts (gcV_X7_failWith (mB12 _ (List.mem_of_getElem? (i := 5) rfl))) rfl rfl rfl hdV_X7_failWith ⟨Nat.le_of_ble_eq_true rfl, Nat.le_of_ble_eq_true rfl⟩) hK hP hD hS hA [0] (fl3 _ _ _) rfl (by decide) (fl1 _) (fl1 _) rfl rfl (fl3 _ _ _) (va_recv hK hP (ci := 6) (q0 := 0) rfl (rwl (rwl o_Rd))) rfl hl.1 rfl (Nat.le_of_ble_eq_true rfl) dX7_readLine_223 ⟨Nat.zero_le _, Nat.zero_le _⟩ (fun H locs hP hD hS => ?_)
                have hP : va_P D vwCl (wRd K hRd aTp (hRo 99) o38.2 ++ wAB K aTp nTp fTp ++ wRo K hRo sRo) H := hP
                have hD : va_D A (wRd K hRd aTp (hRo 99) o38.2 ++ wAB K aTp nTp fTp ++ wRo K hRo sRo) := hD
                refine lv_goto (tgt := 233) hx hb dX7_readLine_226 (by decide) ?_
                obtain ⟨g39, hf⟩ := gd_s hf
                have e9 := Option.some.inj hf
                rw [hQ]
                exact W.zret (v := o38.1) hx hb hr (bob_s g39) (fun t ht hW => ⟨⟨o38.1, (o38.2, sRo), rfl, ⟨pr1 e9, pr2 e9⟩, ⟨by rw [ht]; exact hP, va_K.moved hW.alike hK, hD⟩⟩, hS.F ht⟩) hS.2.2 dX7_readLine_233
          · have hf := it_f hf c26
            refine lv_aload_n hx hb dX7_readLine_177 rfl (lv_at hl 0 rfl) ?_
            refine va_get (D := D) (ci := 6) (v := .ref (hRo 99)) (C := RX7) (T := TX7) (N := 11) hx hb hts iX7 hown hK hP 0 (rwl (rwl o_Rd)) rfl 4 (by decide) (htl _ (mB3 _ (List.mem_of_getElem? (i := 18) rfl))) (fun _ h9 => h9) rfl dX7_readLine_178 ?_
            refine va_get (D := D) (ci := 8) (v := .int (sRo.1 7)) (C := RX9) (T := TX9) (N := 19) hx hb hts iX9 hown hK hP ((3 + 1) + 0) (rwr (lnA ln_Rd ln_AB) o_Ro) rfl 7 (by decide) (htl _ (mB9 _ (List.mem_of_getElem? (i := 22) rfl))) (fun _ h9 => h9) rfl dX7_readLine_181 ?_
            refine lv_bipush (v := (8 : Int32)) hx hb dX7_readLine_184 (by decide) ?_
            refine lv_icmp_lt (tgt := 197) hx hb dX7_readLine_186 (by decide) (fun c40 => ?_) (fun c40 => ?_)
            · have hf := it_t hf c40
              refine lv_aload_n hx hb dX7_readLine_197 rfl (lv_at hl 0 rfl) ?_
              obtain ⟨o41, go41, hf⟩ := bd_s hf
              refine rs_Viz (As := []) (rest := []) ⟨hx, hb, hml, hown, hts⟩ (c_X7_readPump l D K F adK adV tF hRd aTp nTp hRo H.size sRd fTp sRo o41 go41) (cwV 0 hts (gcV_X7_readPump (mB15 _ (List.mem_of_getElem? (i := 2) rfl))) rfl rfl rfl hdV_X7_readPump ⟨Nat.le_of_ble_eq_true rfl, Nat.le_of_ble_eq_true rfl⟩) hK hP hD hS hA hZ (va_recv hK hP (ci := 6) (q0 := 0) rfl (rwl (rwl o_Rd))) rfl hl.1 rfl (Nat.le_of_ble_eq_true rfl) dX7_readLine_198 ⟨Nat.zero_le _, Nat.zero_le _⟩ (fun H locs hP hD hS => ?_)
              have hP : va_P D vwCl (wRd K hRd aTp (hRo 99) o41.2.1 ++ wAB K aTp nTp fTp ++ wRo K hRo o41.2.2) H := hP
              have hD : va_D A (wRd K hRd aTp (hRo 99) o41.2.1 ++ wAB K aTp nTp fTp ++ wRo K hRo o41.2.2) := hD
              obtain ⟨g42, hf⟩ := gd_s hf
              have e9 := Option.some.inj hf
              rw [hQ]
              exact W.zret (v := o41.1) hx hb hr (bob_s g42) (fun t ht hW => ⟨⟨o41.1, (o41.2.1, o41.2.2), rfl, ⟨pr1 e9, pr2 e9⟩, ⟨by rw [ht]; exact hP, va_K.moved hW.alike hK, hD⟩⟩, hS.F ht⟩) hS.2.2 dX7_readLine_201
            · have hf := it_f hf c40
              refine lv_aload_n hx hb dX7_readLine_189 rfl (lv_at hl 0 rfl) ?_
              refine lv_iconst (v := (5 : Int32)) hx hb dX7_readLine_190 (by decide) ?_
              obtain ⟨o43, go43, hf⟩ := bd_s hf
              refine rk_Vi (wn := wRd K hRd aTp (hRo 99) o43.2 ++ wAB K aTp nTp fTp ++ wRo K hRo sRo) [wRd K hRd aTp (hRo 99) sRd, wAB K aTp nTp fTp, wRo K hRo sRo] [wRd K hRd aTp (hRo 99) sRd] [wRd K hRd aTp (hRo 99) o43.2] [wRd K hRd aTp (hRo 99) o43.2, wAB K aTp nTp fTp, wRo K hRo sRo] (As := [.int (5 : Int32)]) (rest := []) ⟨hx, hb, hml, hown, hts⟩ (c_X7_failWith l D K F hRd aTp (hRo 99) H.size sRd (5 : Int32) o43 go43) (cwV 1 hts (gcV_X7_failWith (mB12 _ (List.mem_of_getElem? (i := 5) rfl))) rfl rfl rfl hdV_X7_failWith ⟨Nat.le_of_ble_eq_true rfl, Nat.le_of_ble_eq_true rfl⟩) hK hP hD hS hA [0] (fl3 _ _ _) rfl (by decide) (fl1 _) (fl1 _) rfl rfl (fl3 _ _ _) (va_recv hK hP (ci := 6) (q0 := 0) rfl (rwl (rwl o_Rd))) rfl hl.1 rfl (Nat.le_of_ble_eq_true rfl) dX7_readLine_191 ⟨Nat.zero_le _, Nat.zero_le _⟩ (fun H locs hP hD hS => ?_)
              have hP : va_P D vwCl (wRd K hRd aTp (hRo 99) o43.2 ++ wAB K aTp nTp fTp ++ wRo K hRo sRo) H := hP
              have hD : va_D A (wRd K hRd aTp (hRo 99) o43.2 ++ wAB K aTp nTp fTp ++ wRo K hRo sRo) := hD
              refine lv_goto (tgt := 201) hx hb dX7_readLine_194 (by decide) ?_
              obtain ⟨g44, hf⟩ := gd_s hf
              have e9 := Option.some.inj hf
              rw [hQ]
              exact W.zret (v := o43.1) hx hb hr (bob_s g44) (fun t ht hW => ⟨⟨o43.1, (o43.2, sRo), rfl, ⟨pr1 e9, pr2 e9⟩, ⟨by rw [ht]; exact hP, va_K.moved hW.alike hK, hD⟩⟩, hS.F ht⟩) hS.2.2 dX7_readLine_201
        · have hf := it_f hf c24
          refine lv_aload_n hx hb dX7_readLine_143 rfl (lv_at hl 0 rfl) ?_
          refine va_get (D := D) (ci := 6) (v := .ref (hRo 99)) (C := RX7) (T := TX7) (N := 11) hx hb hts iX7 hown hK hP 0 (rwl (rwl o_Rd)) rfl 4 (by decide) (htl _ (mB3 _ (List.mem_of_getElem? (i := 18) rfl))) (fun _ h9 => h9) rfl dX7_readLine_144 ?_
          refine va_get (D := D) (ci := 8) (v := .int (sRo.1 6)) (C := RX9) (T := TX9) (N := 19) hx hb hts iX9 hown hK hP ((3 + 1) + 0) (rwr (lnA ln_Rd ln_AB) o_Ro) rfl 6 (by decide) (htl _ (mB9 _ (List.mem_of_getElem? (i := 21) rfl))) (fun _ h9 => h9) rfl dX7_readLine_147 ?_
          refine lv_bipush (v := (14 : Int32)) hx hb dX7_readLine_150 (by decide) ?_
          refine lv_icmp_lt (tgt := 163) hx hb dX7_readLine_152 (by decide) (fun c45 => ?_) (fun c45 => ?_)
          · have hf := it_t hf c45
            refine lv_aload_n hx hb dX7_readLine_163 rfl (lv_at hl 0 rfl) ?_
            obtain ⟨o46, go46, hf⟩ := bd_s hf
            refine rs_Viz (As := []) (rest := []) ⟨hx, hb, hml, hown, hts⟩ (c_X7_readRoadBetween l D K F adK adV tF hRd aTp nTp hRo H.size sRd fTp sRo o46 go46) (cwV 0 hts (gcV_X7_readRoadBetween (mB14 _ (List.mem_of_getElem? (i := 6) rfl))) rfl rfl rfl hdV_X7_readRoadBetween ⟨Nat.le_of_ble_eq_true rfl, Nat.le_of_ble_eq_true rfl⟩) hK hP hD hS hA hZ (va_recv hK hP (ci := 6) (q0 := 0) rfl (rwl (rwl o_Rd))) rfl hl.1 rfl (Nat.le_of_ble_eq_true rfl) dX7_readLine_164 ⟨Nat.zero_le _, Nat.zero_le _⟩ (fun H locs hP hD hS => ?_)
            have hP : va_P D vwCl (wRd K hRd aTp (hRo 99) o46.2.1 ++ wAB K aTp nTp fTp ++ wRo K hRo o46.2.2) H := hP
            have hD : va_D A (wRd K hRd aTp (hRo 99) o46.2.1 ++ wAB K aTp nTp fTp ++ wRo K hRo o46.2.2) := hD
            obtain ⟨g47, hf⟩ := gd_s hf
            have e9 := Option.some.inj hf
            rw [hQ]
            exact W.zret (v := o46.1) hx hb hr (bob_s g47) (fun t ht hW => ⟨⟨o46.1, (o46.2.1, o46.2.2), rfl, ⟨pr1 e9, pr2 e9⟩, ⟨by rw [ht]; exact hP, va_K.moved hW.alike hK, hD⟩⟩, hS.F ht⟩) hS.2.2 dX7_readLine_167
          · have hf := it_f hf c45
            refine lv_aload_n hx hb dX7_readLine_155 rfl (lv_at hl 0 rfl) ?_
            refine lv_iconst (v := (5 : Int32)) hx hb dX7_readLine_156 (by decide) ?_
            obtain ⟨o48, go48, hf⟩ := bd_s hf
            refine rk_Vi (wn := wRd K hRd aTp (hRo 99) o48.2 ++ wAB K aTp nTp fTp ++ wRo K hRo sRo) [wRd K hRd aTp (hRo 99) sRd, wAB K aTp nTp fTp, wRo K hRo sRo] [wRd K hRd aTp (hRo 99) sRd] [wRd K hRd aTp (hRo 99) o48.2] [wRd K hRd aTp (hRo 99) o48.2, wAB K aTp nTp fTp, wRo K hRo sRo] (As := [.int (5 : Int32)]) (rest := []) ⟨hx, hb, hml, hown, hts⟩ (c_X7_failWith l D K F hRd aTp (hRo 99) H.size sRd (5 : Int32) o48 go48) (cwV 1 hts (gcV_X7_failWith (mB12 _ (List.mem_of_getElem? (i := 5) rfl))) rfl rfl rfl hdV_X7_failWith ⟨Nat.le_of_ble_eq_true rfl, Nat.le_of_ble_eq_true rfl⟩) hK hP hD hS hA [0] (fl3 _ _ _) rfl (by decide) (fl1 _) (fl1 _) rfl rfl (fl3 _ _ _) (va_recv hK hP (ci := 6) (q0 := 0) rfl (rwl (rwl o_Rd))) rfl hl.1 rfl (Nat.le_of_ble_eq_true rfl) dX7_readLine_157 ⟨Nat.zero_le _, Nat.zero_le _⟩ (fun H locs hP hD hS => ?_)
            have hP : va_P D vwCl (wRd K hRd aTp (hRo 99) o48.2 ++ wAB K aTp nTp fTp ++ wRo K hRo sRo) H := hP
            have hD : va_D A (wRd K hRd aTp (hRo 99) o48.2 ++ wAB K aTp nTp fTp ++ wRo K hRo sRo) := hD
            refine lv_goto (tgt := 167) hx hb dX7_readLine_160 (by decide) ?_
            obtain ⟨g49, hf⟩ := gd_s hf
            have e9 := Option.some.inj hf
            rw [hQ]
            exact W.zret (v := o48.1) hx hb hr (bob_s g49) (fun t ht hW => ⟨⟨o48.1, (o48.2, sRo), rfl, ⟨pr1 e9, pr2 e9⟩, ⟨by rw [ht]; exact hP, va_K.moved hW.alike hK, hD⟩⟩, hS.F ht⟩) hS.2.2 dX7_readLine_167
      · have hf := it_f hf c22
        refine lv_aload_n hx hb dX7_readLine_109 rfl (lv_at hl 0 rfl) ?_
        refine va_get (D := D) (ci := 6) (v := .ref (hRo 99)) (C := RX7) (T := TX7) (N := 11) hx hb hts iX7 hown hK hP 0 (rwl (rwl o_Rd)) rfl 4 (by decide) (htl _ (mB3 _ (List.mem_of_getElem? (i := 18) rfl))) (fun _ h9 => h9) rfl dX7_readLine_110 ?_
        refine va_get (D := D) (ci := 8) (v := .int (sRo.1 5)) (C := RX9) (T := TX9) (N := 19) hx hb hts iX9 hown hK hP ((3 + 1) + 0) (rwr (lnA ln_Rd ln_AB) o_Ro) rfl 5 (by decide) (htl _ (mB9 _ (List.mem_of_getElem? (i := 20) rfl))) (fun _ h9 => h9) rfl dX7_readLine_113 ?_
        refine lv_bipush (v := (9 : Int32)) hx hb dX7_readLine_116 (by decide) ?_
        refine lv_icmp_lt (tgt := 129) hx hb dX7_readLine_118 (by decide) (fun c50 => ?_) (fun c50 => ?_)
        · have hf := it_t hf c50
          refine lv_aload_n hx hb dX7_readLine_129 rfl (lv_at hl 0 rfl) ?_
          obtain ⟨o51, go51, hf⟩ := bd_s hf
          refine rs_Viz (As := []) (rest := []) ⟨hx, hb, hml, hown, hts⟩ (c_X7_readPlace l D K F adK adV tF hRd aTp nTp hRo H.size sRd fTp sRo o51 go51) (cwV 0 hts (gcV_X7_readPlace (mB13 _ (List.mem_of_getElem? (i := 14) rfl))) rfl rfl rfl hdV_X7_readPlace ⟨Nat.le_of_ble_eq_true rfl, Nat.le_of_ble_eq_true rfl⟩) hK hP hD hS hA hZ (va_recv hK hP (ci := 6) (q0 := 0) rfl (rwl (rwl o_Rd))) rfl hl.1 rfl (Nat.le_of_ble_eq_true rfl) dX7_readLine_130 ⟨Nat.zero_le _, Nat.zero_le _⟩ (fun H locs hP hD hS => ?_)
          have hP : va_P D vwCl (wRd K hRd aTp (hRo 99) o51.2.1 ++ wAB K aTp nTp fTp ++ wRo K hRo o51.2.2) H := hP
          have hD : va_D A (wRd K hRd aTp (hRo 99) o51.2.1 ++ wAB K aTp nTp fTp ++ wRo K hRo o51.2.2) := hD
          obtain ⟨g52, hf⟩ := gd_s hf
          have e9 := Option.some.inj hf
          rw [hQ]
          exact W.zret (v := o51.1) hx hb hr (bob_s g52) (fun t ht hW => ⟨⟨o51.1, (o51.2.1, o51.2.2), rfl, ⟨pr1 e9, pr2 e9⟩, ⟨by rw [ht]; exact hP, va_K.moved hW.alike hK, hD⟩⟩, hS.F ht⟩) hS.2.2 dX7_readLine_133
        · have hf := it_f hf c50
          refine lv_aload_n hx hb dX7_readLine_121 rfl (lv_at hl 0 rfl) ?_
          refine lv_iconst (v := (5 : Int32)) hx hb dX7_readLine_122 (by decide) ?_
          obtain ⟨o53, go53, hf⟩ := bd_s hf
          refine rk_Vi (wn := wRd K hRd aTp (hRo 99) o53.2 ++ wAB K aTp nTp fTp ++ wRo K hRo sRo) [wRd K hRd aTp (hRo 99) sRd, wAB K aTp nTp fTp, wRo K hRo sRo] [wRd K hRd aTp (hRo 99) sRd] [wRd K hRd aTp (hRo 99) o53.2] [wRd K hRd aTp (hRo 99) o53.2, wAB K aTp nTp fTp, wRo K hRo sRo] (As := [.int (5 : Int32)]) (rest := []) ⟨hx, hb, hml, hown, hts⟩ (c_X7_failWith l D K F hRd aTp (hRo 99) H.size sRd (5 : Int32) o53 go53) (cwV 1 hts (gcV_X7_failWith (mB12 _ (List.mem_of_getElem? (i := 5) rfl))) rfl rfl rfl hdV_X7_failWith ⟨Nat.le_of_ble_eq_true rfl, Nat.le_of_ble_eq_true rfl⟩) hK hP hD hS hA [0] (fl3 _ _ _) rfl (by decide) (fl1 _) (fl1 _) rfl rfl (fl3 _ _ _) (va_recv hK hP (ci := 6) (q0 := 0) rfl (rwl (rwl o_Rd))) rfl hl.1 rfl (Nat.le_of_ble_eq_true rfl) dX7_readLine_123 ⟨Nat.zero_le _, Nat.zero_le _⟩ (fun H locs hP hD hS => ?_)
          have hP : va_P D vwCl (wRd K hRd aTp (hRo 99) o53.2 ++ wAB K aTp nTp fTp ++ wRo K hRo sRo) H := hP
          have hD : va_D A (wRd K hRd aTp (hRo 99) o53.2 ++ wAB K aTp nTp fTp ++ wRo K hRo sRo) := hD
          refine lv_goto (tgt := 133) hx hb dX7_readLine_126 (by decide) ?_
          obtain ⟨g54, hf⟩ := gd_s hf
          have e9 := Option.some.inj hf
          rw [hQ]
          exact W.zret (v := o53.1) hx hb hr (bob_s g54) (fun t ht hW => ⟨⟨o53.1, (o53.2, sRo), rfl, ⟨pr1 e9, pr2 e9⟩, ⟨by rw [ht]; exact hP, va_K.moved hW.alike hK, hD⟩⟩, hS.F ht⟩) hS.2.2 dX7_readLine_133
    · have hf := it_t hf c20
      refine lv_aload_n hx hb dX7_readLine_93 rfl (lv_at hl 0 rfl) ?_
      refine lv_bipush (v := (6 : Int32)) hx hb dX7_readLine_94 (by decide) ?_
      obtain ⟨o55, go55, hf⟩ := bd_s hf
      refine rk_Vi (wn := wRd K hRd aTp (hRo 99) o55.2 ++ wAB K aTp nTp fTp ++ wRo K hRo sRo) [wRd K hRd aTp (hRo 99) sRd, wAB K aTp nTp fTp, wRo K hRo sRo] [wRd K hRd aTp (hRo 99) sRd] [wRd K hRd aTp (hRo 99) o55.2] [wRd K hRd aTp (hRo 99) o55.2, wAB K aTp nTp fTp, wRo K hRo sRo] (As := [.int (6 : Int32)]) (rest := []) ⟨hx, hb, hml, hown, hts⟩ (c_X7_failWith l D K F hRd aTp (hRo 99) H.size sRd (6 : Int32) o55 go55) (cwV 1 hts (gcV_X7_failWith (mB12 _ (List.mem_of_getElem? (i := 5) rfl))) rfl rfl rfl hdV_X7_failWith ⟨Nat.le_of_ble_eq_true rfl, Nat.le_of_ble_eq_true rfl⟩) hK hP hD hS hA [0] (fl3 _ _ _) rfl (by decide) (fl1 _) (fl1 _) rfl rfl (fl3 _ _ _) (va_recv hK hP (ci := 6) (q0 := 0) rfl (rwl (rwl o_Rd))) rfl hl.1 rfl (Nat.le_of_ble_eq_true rfl) dX7_readLine_96 ⟨Nat.zero_le _, Nat.zero_le _⟩ (fun H locs hP hD hS => ?_)
      have hP : va_P D vwCl (wRd K hRd aTp (hRo 99) o55.2 ++ wAB K aTp nTp fTp ++ wRo K hRo sRo) H := hP
      have hD : va_D A (wRd K hRd aTp (hRo 99) o55.2 ++ wAB K aTp nTp fTp ++ wRo K hRo sRo) := hD
      obtain ⟨g56, hf⟩ := gd_s hf
      have e9 := Option.some.inj hf
      rw [hQ]
      exact W.zret (v := o55.1) hx hb hr (bob_s g56) (fun t ht hW => ⟨⟨o55.1, (o55.2, sRo), rfl, ⟨pr1 e9, pr2 e9⟩, ⟨by rw [ht]; exact hP, va_K.moved hW.alike hK, hD⟩⟩, hS.F ht⟩) hS.2.2 dX7_readLine_99
  have hen : entryFrame m args 1 = entryFrame m (([.ref (hRd 99)] : List Value).toArray) 1 := by rw [hargs]
  have hl := lv_entry ([.ref (hRd 99)]) (n := 1) (Nat.le_of_ble_eq_true rfl)
  rw [hen, lg_entry_eq]
  generalize (lg_sl ([.ref (hRd 99)]) ++ List.replicate (1 - (lg_sl ([.ref (hRd 99)])).length) Slot.unset).toArray = ls at hl ⊢
  have hl : lv_has ls 1 [(0, .ref (hRd 99))] := hl
  unfold f_X7_readLine at hf
  obtain ⟨H, hHe⟩ : ∃ z, z = s.heap := ⟨_, rfl⟩
  obtain ⟨locs, hLe⟩ : ∃ z : List Loc, z = [] := ⟨_, rfl⟩
  rw [← hLe]
  have hS : va_S A s.heap H locs := by rw [hHe, hLe]; exact hS
  have hP : va_P D vwCl (wRd K hRd aTp (hRo 99) sRd ++ wAB K aTp nTp fTp ++ wRo K hRo sRo) H := by rw [hHe]; exact hP
  have hgo : W p l e (headSpec wz_X7_readLine r_X7_readLine).room s m args below meth c H locs 0 0 Q (F0 m 0 ls []) := by
    refine lv_aload_n hx hb dX7_readLine_0 rfl (lv_at hl 0 rfl) ?_
    refine va_ldcS (own := RX7) (index := 66) (tx := "ca\x72") (q := adK 0) hx hb hown (hZ.2.2.2 (RX7, 66, "ca\x72", 0) (List.mem_of_getElem? (i := 15) rfl)) dX7_readLine_1 ?_
    obtain ⟨o1, go1, hf⟩ := bd_s hf
    refine ro_Viz (As := [.ref (adK 0)]) (rest := []) ⟨hx, hb, hml, hown, hts⟩ (c_X7_isWord l D K F adK adV tF hRd (hRo 99) aTp nTp sRd fTp 0 o1 go1) (cwV 1 hts (gcV_X7_isWord (mB10 _ (List.mem_of_getElem? (i := 0) rfl))) rfl rfl rfl hdV_X7_isWord ⟨Nat.le_of_ble_eq_true rfl, Nat.le_of_ble_eq_true rfl⟩) hK hP hS hZ (va_PL (cs := [wRd K hRd aTp (hRo 99) sRd, wAB K aTp nTp fTp, wRo K hRo sRo]) (cc := [wRd K hRd aTp (hRo 99) sRd, wAB K aTp nTp fTp]) hP (fl3 _ _ _) [0, 1] rfl (fl2 _ _)) (va_recv hK hP (ci := 6) (q0 := 0) rfl (rwl (rwl o_Rd))) rfl hl.1 rfl (Nat.le_of_ble_eq_true rfl) dX7_readLine_3 ⟨Nat.zero_le _, Nat.zero_le _⟩ (fun H locs hP hS => ?_)
    refine lv_if_eq (tgt := 32) hx hb dX7_readLine_6 (by decide) (fun c2 => ?_) (fun c2 => ?_)
    · have hf := it_t hf c2
      refine lv_aload_n hx hb dX7_readLine_32 rfl (lv_at hl 0 rfl) ?_
      refine va_ldcS (own := RX7) (index := 78) (tx := "place") (q := adK 1) hx hb hown (hZ.2.2.2 (RX7, 78, "place", 1) (List.mem_of_getElem? (i := 16) rfl)) dX7_readLine_33 ?_
      obtain ⟨o3, go3, hf⟩ := bd_s hf
      refine ro_Viz (As := [.ref (adK 1)]) (rest := []) ⟨hx, hb, hml, hown, hts⟩ (c_X7_isWord l D K F adK adV tF hRd (hRo 99) aTp nTp sRd fTp 1 o3 go3) (cwV 1 hts (gcV_X7_isWord (mB10 _ (List.mem_of_getElem? (i := 0) rfl))) rfl rfl rfl hdV_X7_isWord ⟨Nat.le_of_ble_eq_true rfl, Nat.le_of_ble_eq_true rfl⟩) hK hP hS hZ (va_PL (cs := [wRd K hRd aTp (hRo 99) sRd, wAB K aTp nTp fTp, wRo K hRo sRo]) (cc := [wRd K hRd aTp (hRo 99) sRd, wAB K aTp nTp fTp]) hP (fl3 _ _ _) [0, 1] rfl (fl2 _ _)) (va_recv hK hP (ci := 6) (q0 := 0) rfl (rwl (rwl o_Rd))) rfl hl.1 rfl (Nat.le_of_ble_eq_true rfl) dX7_readLine_35 ⟨Nat.zero_le _, Nat.zero_le _⟩ (fun H locs hP hS => ?_)
      refine lv_if_ne (tgt := 83) hx hb dX7_readLine_38 (by decide) (fun c4 => ?_) (fun c4 => ?_)
      · have hf := it_f hf c4
        exact w83 sRd sRo H locs ls hf hP hD hS (lv_sub hl [0] rfl)
      · have hf := it_t hf c4
        refine lv_aload_n hx hb dX7_readLine_41 rfl (lv_at hl 0 rfl) ?_
        refine va_ldcS (own := RX7) (index := 80) (tx := "road") (q := adK 2) hx hb hown (hZ.2.2.2 (RX7, 80, "road", 2) (List.mem_of_getElem? (i := 17) rfl)) dX7_readLine_42 ?_
        obtain ⟨o5, go5, hf⟩ := bd_s hf
        refine ro_Viz (As := [.ref (adK 2)]) (rest := []) ⟨hx, hb, hml, hown, hts⟩ (c_X7_isWord l D K F adK adV tF hRd (hRo 99) aTp nTp sRd fTp 2 o5 go5) (cwV 1 hts (gcV_X7_isWord (mB10 _ (List.mem_of_getElem? (i := 0) rfl))) rfl rfl rfl hdV_X7_isWord ⟨Nat.le_of_ble_eq_true rfl, Nat.le_of_ble_eq_true rfl⟩) hK hP hS hZ (va_PL (cs := [wRd K hRd aTp (hRo 99) sRd, wAB K aTp nTp fTp, wRo K hRo sRo]) (cc := [wRd K hRd aTp (hRo 99) sRd, wAB K aTp nTp fTp]) hP (fl3 _ _ _) [0, 1] rfl (fl2 _ _)) (va_recv hK hP (ci := 6) (q0 := 0) rfl (rwl (rwl o_Rd))) rfl hl.1 rfl (Nat.le_of_ble_eq_true rfl) dX7_readLine_44 ⟨Nat.zero_le _, Nat.zero_le _⟩ (fun H locs hP hS => ?_)
        refine lv_if_ne (tgt := 83) hx hb dX7_readLine_47 (by decide) (fun c6 => ?_) (fun c6 => ?_)
        · have hf := it_f hf c6
          exact w83 sRd sRo H locs ls hf hP hD hS (lv_sub hl [0] rfl)
        · have hf := it_t hf c6
          refine lv_aload_n hx hb dX7_readLine_50 rfl (lv_at hl 0 rfl) ?_
          refine va_ldcS (own := RX7) (index := 81) (tx := "pump") (q := adK 3) hx hb hown (hZ.2.2.2 (RX7, 81, "pump", 3) (List.mem_of_getElem? (i := 18) rfl)) dX7_readLine_51 ?_
          obtain ⟨o7, go7, hf⟩ := bd_s hf
          refine ro_Viz (As := [.ref (adK 3)]) (rest := []) ⟨hx, hb, hml, hown, hts⟩ (c_X7_isWord l D K F adK adV tF hRd (hRo 99) aTp nTp sRd fTp 3 o7 go7) (cwV 1 hts (gcV_X7_isWord (mB10 _ (List.mem_of_getElem? (i := 0) rfl))) rfl rfl rfl hdV_X7_isWord ⟨Nat.le_of_ble_eq_true rfl, Nat.le_of_ble_eq_true rfl⟩) hK hP hS hZ (va_PL (cs := [wRd K hRd aTp (hRo 99) sRd, wAB K aTp nTp fTp, wRo K hRo sRo]) (cc := [wRd K hRd aTp (hRo 99) sRd, wAB K aTp nTp fTp]) hP (fl3 _ _ _) [0, 1] rfl (fl2 _ _)) (va_recv hK hP (ci := 6) (q0 := 0) rfl (rwl (rwl o_Rd))) rfl hl.1 rfl (Nat.le_of_ble_eq_true rfl) dX7_readLine_53 ⟨Nat.zero_le _, Nat.zero_le _⟩ (fun H locs hP hS => ?_)
          refine lv_if_ne (tgt := 83) hx hb dX7_readLine_56 (by decide) (fun c8 => ?_) (fun c8 => ?_)
          · have hf := it_f hf c8
            exact w83 sRd sRo H locs ls hf hP hD hS (lv_sub hl [0] rfl)
          · have hf := it_t hf c8
            refine lv_aload_n hx hb dX7_readLine_59 rfl (lv_at hl 0 rfl) ?_
            refine va_ldcS (own := RX7) (index := 83) (tx := "way") (q := adK 4) hx hb hown (hZ.2.2.2 (RX7, 83, "way", 4) (List.mem_of_getElem? (i := 19) rfl)) dX7_readLine_60 ?_
            obtain ⟨o9, go9, hf⟩ := bd_s hf
            refine ro_Viz (As := [.ref (adK 4)]) (rest := []) ⟨hx, hb, hml, hown, hts⟩ (c_X7_isWord l D K F adK adV tF hRd (hRo 99) aTp nTp sRd fTp 4 o9 go9) (cwV 1 hts (gcV_X7_isWord (mB10 _ (List.mem_of_getElem? (i := 0) rfl))) rfl rfl rfl hdV_X7_isWord ⟨Nat.le_of_ble_eq_true rfl, Nat.le_of_ble_eq_true rfl⟩) hK hP hS hZ (va_PL (cs := [wRd K hRd aTp (hRo 99) sRd, wAB K aTp nTp fTp, wRo K hRo sRo]) (cc := [wRd K hRd aTp (hRo 99) sRd, wAB K aTp nTp fTp]) hP (fl3 _ _ _) [0, 1] rfl (fl2 _ _)) (va_recv hK hP (ci := 6) (q0 := 0) rfl (rwl (rwl o_Rd))) rfl hl.1 rfl (Nat.le_of_ble_eq_true rfl) dX7_readLine_62 ⟨Nat.zero_le _, Nat.zero_le _⟩ (fun H locs hP hS => ?_)
            refine lv_if_ne (tgt := 83) hx hb dX7_readLine_65 (by decide) (fun c10 => ?_) (fun c10 => ?_)
            · have hf := it_f hf c10
              exact w83 sRd sRo H locs ls hf hP hD hS (lv_sub hl [0] rfl)
            · have hf := it_t hf c10
              refine lv_aload_n hx hb dX7_readLine_68 rfl (lv_at hl 0 rfl) ?_
              refine va_ldcS (own := RX7) (index := 85) (tx := "receipt") (q := adK 5) hx hb hown (hZ.2.2.2 (RX7, 85, "receipt", 5) (List.mem_of_getElem? (i := 20) rfl)) dX7_readLine_69 ?_
              obtain ⟨o11, go11, hf⟩ := bd_s hf
              refine ro_Viz (As := [.ref (adK 5)]) (rest := []) ⟨hx, hb, hml, hown, hts⟩ (c_X7_isWord l D K F adK adV tF hRd (hRo 99) aTp nTp sRd fTp 5 o11 go11) (cwV 1 hts (gcV_X7_isWord (mB10 _ (List.mem_of_getElem? (i := 0) rfl))) rfl rfl rfl hdV_X7_isWord ⟨Nat.le_of_ble_eq_true rfl, Nat.le_of_ble_eq_true rfl⟩) hK hP hS hZ (va_PL (cs := [wRd K hRd aTp (hRo 99) sRd, wAB K aTp nTp fTp, wRo K hRo sRo]) (cc := [wRd K hRd aTp (hRo 99) sRd, wAB K aTp nTp fTp]) hP (fl3 _ _ _) [0, 1] rfl (fl2 _ _)) (va_recv hK hP (ci := 6) (q0 := 0) rfl (rwl (rwl o_Rd))) rfl hl.1 rfl (Nat.le_of_ble_eq_true rfl) dX7_readLine_71 ⟨Nat.zero_le _, Nat.zero_le _⟩ (fun H locs hP hS => ?_)
              refine lv_if_ne (tgt := 83) hx hb dX7_readLine_74 (by decide) (fun c12 => ?_) (fun c12 => ?_)
              · have hf := it_f hf c12
                exact w83 sRd sRo H locs ls hf hP hD hS (lv_sub hl [0] rfl)
              · have hf := it_t hf c12
                refine lv_aload_n hx hb dX7_readLine_77 rfl (lv_at hl 0 rfl) ?_
                refine lv_iconst (v := (1 : Int32)) hx hb dX7_readLine_78 (by decide) ?_
                obtain ⟨o13, go13, hf⟩ := bd_s hf
                refine rk_Vi (wn := wRd K hRd aTp (hRo 99) o13.2 ++ wAB K aTp nTp fTp ++ wRo K hRo sRo) [wRd K hRd aTp (hRo 99) sRd, wAB K aTp nTp fTp, wRo K hRo sRo] [wRd K hRd aTp (hRo 99) sRd] [wRd K hRd aTp (hRo 99) o13.2] [wRd K hRd aTp (hRo 99) o13.2, wAB K aTp nTp fTp, wRo K hRo sRo] (As := [.int (1 : Int32)]) (rest := []) ⟨hx, hb, hml, hown, hts⟩ (c_X7_failWith l D K F hRd aTp (hRo 99) H.size sRd (1 : Int32) o13 go13) (cwV 1 hts (gcV_X7_failWith (mB12 _ (List.mem_of_getElem? (i := 5) rfl))) rfl rfl rfl hdV_X7_failWith ⟨Nat.le_of_ble_eq_true rfl, Nat.le_of_ble_eq_true rfl⟩) hK hP hD hS hA [0] (fl3 _ _ _) rfl (by decide) (fl1 _) (fl1 _) rfl rfl (fl3 _ _ _) (va_recv hK hP (ci := 6) (q0 := 0) rfl (rwl (rwl o_Rd))) rfl hl.1 rfl (Nat.le_of_ble_eq_true rfl) dX7_readLine_79 ⟨Nat.zero_le _, Nat.zero_le _⟩ (fun H locs hP hD hS => ?_)
                have hP : va_P D vwCl (wRd K hRd aTp (hRo 99) o13.2 ++ wAB K aTp nTp fTp ++ wRo K hRo sRo) H := hP
                have hD : va_D A (wRd K hRd aTp (hRo 99) o13.2 ++ wAB K aTp nTp fTp ++ wRo K hRo sRo) := hD
                obtain ⟨g14, hf⟩ := gd_s hf
                have e9 := Option.some.inj hf
                rw [hQ]
                exact W.zret (v := o13.1) hx hb hr (bob_s g14) (fun t ht hW => ⟨⟨o13.1, (o13.2, sRo), rfl, ⟨pr1 e9, pr2 e9⟩, ⟨by rw [ht]; exact hP, va_K.moved hW.alike hK, hD⟩⟩, hS.F ht⟩) hS.2.2 dX7_readLine_82
    · have hf := it_f hf c2
      refine lv_aload_n hx hb dX7_readLine_9 rfl (lv_at hl 0 rfl) ?_
      refine va_get (D := D) (ci := 6) (v := .ref (hRo 99)) (C := RX7) (T := TX7) (N := 11) hx hb hts iX7 hown hK hP 0 (rwl (rwl o_Rd)) rfl 4 (by decide) (htl _ (mB3 _ (List.mem_of_getElem? (i := 18) rfl))) (fun _ h9 => h9) rfl dX7_readLine_10 ?_
      refine va_get (D := D) (ci := 8) (v := .int (sRo.1 0)) (C := RX9) (T := TX9) (N := 19) hx hb hts iX9 hown hK hP ((3 + 1) + 0) (rwr (lnA ln_Rd ln_AB) o_Ro) rfl 0 (by decide) (htl _ (mB9 _ (List.mem_of_getElem? (i := 19) rfl))) (fun _ h9 => h9) rfl dX7_readLine_13 ?_
      refine lv_if_le (tgt := 27) hx hb dX7_readLine_16 (by decide) (fun c15 => ?_) (fun c15 => ?_)
      · have hf := it_t hf c15
        refine lv_aload_n hx hb dX7_readLine_27 rfl (lv_at hl 0 rfl) ?_
        obtain ⟨o16, go16, hf⟩ := bd_s hf
        refine rs_Viz (As := []) (rest := []) ⟨hx, hb, hml, hown, hts⟩ (c_X7_readCar l D K F adK adV tF hRd aTp nTp hRo H.size sRd fTp sRo o16 go16) (cwV 0 hts (gcV_X7_readCar (mB12 _ (List.mem_of_getElem? (i := 13) rfl))) rfl rfl rfl hdV_X7_readCar ⟨Nat.le_of_ble_eq_true rfl, Nat.le_of_ble_eq_true rfl⟩) hK hP hD hS hA hZ (va_recv hK hP (ci := 6) (q0 := 0) rfl (rwl (rwl o_Rd))) rfl hl.1 rfl (Nat.le_of_ble_eq_true rfl) dX7_readLine_28 ⟨Nat.zero_le _, Nat.zero_le _⟩ (fun H locs hP hD hS => ?_)
        have hP : va_P D vwCl (wRd K hRd aTp (hRo 99) o16.2.1 ++ wAB K aTp nTp fTp ++ wRo K hRo o16.2.2) H := hP
        have hD : va_D A (wRd K hRd aTp (hRo 99) o16.2.1 ++ wAB K aTp nTp fTp ++ wRo K hRo o16.2.2) := hD
        obtain ⟨g17, hf⟩ := gd_s hf
        have e9 := Option.some.inj hf
        rw [hQ]
        exact W.zret (v := o16.1) hx hb hr (bob_s g17) (fun t ht hW => ⟨⟨o16.1, (o16.2.1, o16.2.2), rfl, ⟨pr1 e9, pr2 e9⟩, ⟨by rw [ht]; exact hP, va_K.moved hW.alike hK, hD⟩⟩, hS.F ht⟩) hS.2.2 dX7_readLine_31
      · have hf := it_f hf c15
        refine lv_aload_n hx hb dX7_readLine_19 rfl (lv_at hl 0 rfl) ?_
        refine lv_iconst (v := (3 : Int32)) hx hb dX7_readLine_20 (by decide) ?_
        obtain ⟨o18, go18, hf⟩ := bd_s hf
        refine rk_Vi (wn := wRd K hRd aTp (hRo 99) o18.2 ++ wAB K aTp nTp fTp ++ wRo K hRo sRo) [wRd K hRd aTp (hRo 99) sRd, wAB K aTp nTp fTp, wRo K hRo sRo] [wRd K hRd aTp (hRo 99) sRd] [wRd K hRd aTp (hRo 99) o18.2] [wRd K hRd aTp (hRo 99) o18.2, wAB K aTp nTp fTp, wRo K hRo sRo] (As := [.int (3 : Int32)]) (rest := []) ⟨hx, hb, hml, hown, hts⟩ (c_X7_failWith l D K F hRd aTp (hRo 99) H.size sRd (3 : Int32) o18 go18) (cwV 1 hts (gcV_X7_failWith (mB12 _ (List.mem_of_getElem? (i := 5) rfl))) rfl rfl rfl hdV_X7_failWith ⟨Nat.le_of_ble_eq_true rfl, Nat.le_of_ble_eq_true rfl⟩) hK hP hD hS hA [0] (fl3 _ _ _) rfl (by decide) (fl1 _) (fl1 _) rfl rfl (fl3 _ _ _) (va_recv hK hP (ci := 6) (q0 := 0) rfl (rwl (rwl o_Rd))) rfl hl.1 rfl (Nat.le_of_ble_eq_true rfl) dX7_readLine_21 ⟨Nat.zero_le _, Nat.zero_le _⟩ (fun H locs hP hD hS => ?_)
        have hP : va_P D vwCl (wRd K hRd aTp (hRo 99) o18.2 ++ wAB K aTp nTp fTp ++ wRo K hRo sRo) H := hP
        have hD : va_D A (wRd K hRd aTp (hRo 99) o18.2 ++ wAB K aTp nTp fTp ++ wRo K hRo sRo) := hD
        refine lv_goto (tgt := 31) hx hb dX7_readLine_24 (by decide) ?_
        obtain ⟨g19, hf⟩ := gd_s hf
        have e9 := Option.some.inj hf
        rw [hQ]
        exact W.zret (v := o18.1) hx hb hr (bob_s g19) (fun t ht hW => ⟨⟨o18.1, (o18.2, sRo), rfl, ⟨pr1 e9, pr2 e9⟩, ⟨by rw [ht]; exact hP, va_K.moved hW.alike hK, hD⟩⟩, hS.F ht⟩) hS.2.2 dX7_readLine_31
  rw [hHe] at hgo
  exact hgo

theorem gcV_X9_clear {T0 : Cond} {own : String} {i : Nat} (h : Cond.methodLink own i yX9_clear ∈ wsL_law) : GoodIn (T0 :: wsL_law) (wsV own i RX9 yX9_clear wz_X9_clear) := gV h (mB8 _ (List.mem_of_getElem? (i := 9) rfl)) (mB8 _ (List.mem_of_getElem? (i := 10) rfl)) (mB1 _ (List.mem_of_getElem? (i := 17) rfl)) (mB8 _ (List.mem_of_getElem? (i := 11) rfl))
theorem hdV_X9_clear : yX9_clear.cls = RX9 ∧ yX9_clear.cls ≠ "java/lang/invoke/MethodHandle" ∧ yX9_clear.cls ≠ "java/lang/invoke/VarHandle" ∧ (parseMethodDescriptor yX9_clear.desc).map (fun d => d.parameters.length) = some 0 := by decide +kernel
theorem gcV_X7_readLine {T0 : Cond} {own : String} {i : Nat} (h : Cond.methodLink own i yX7_readLine ∈ wsL_law) : GoodIn (T0 :: wsL_law) (wsV own i RX7 yX7_readLine wz_X7_readLine) := gV h (mB9 _ (List.mem_of_getElem? (i := 16) rfl)) (mB9 _ (List.mem_of_getElem? (i := 17) rfl)) (mB1 _ (List.mem_of_getElem? (i := 22) rfl)) (mB9 _ (List.mem_of_getElem? (i := 18) rfl))
theorem hdV_X7_readLine : yX7_readLine.cls = RX7 ∧ yX7_readLine.cls ≠ "java/lang/invoke/MethodHandle" ∧ yX7_readLine.cls ≠ "java/lang/invoke/VarHandle" ∧ (parseMethodDescriptor yX7_readLine.desc).map (fun d => d.parameters.length) = some 0 := by decide +kernel
def wz_X7_readRoad : List Cond := .code yX7_readRoad cX7_readRoad 5 (some .boolean) :: wsL_law
abbrev r_X7_readRoad : Room := { frames := 9, cells := 0, slots := 0, locals := 191 }
set_option maxHeartbeats 4000000 in
set_option maxRecDepth 100000 in
theorem c_X7_readRoad (l : Launch) (D : va_G) (K : Nat → ClassId) (F : Nat) (adK adV : Nat → Nat) (tF : Nat) (hRd : Nat → Nat) (rRd2 : Nat) (rRd4 : Nat) (aTp nTp : Nat) (hRo : Nat → Nat) (sz : Nat) (sRd : MS) (fTp : (Nat → Int32)) (sRo : MS) (p2 : Int32) (res : Int32 × MS × MS) (hf : f_X7_readRoad F nTp fTp p2 sRd sRo = some res) : Met l yX7_readRoad wz_X7_readRoad r_X7_readRoad (va_Pc [.ref (hRd 99), .ref aTp, .int p2, .ref (hRo 99)] (PWz D K adK adV tF (wRd K hRd rRd2 rRd4 sRd ++ wAB K aTp nTp fTp ++ wRo K hRo sRo) sz)) (va_Qi (fun r u => r = res.1 ∧ u = res.2) (fun u t => BW D K (va_A (wRd K hRd rRd2 rRd4 sRd ++ wAB K aTp nTp fTp ++ wRo K hRo sRo) sz) (wRd K hRd aTp (hRo 99) u.1 ++ wAB K aTp nTp fTp ++ wRo K hRo u.2) t) (va_A (wRd K hRd rRd2 rRd4 sRd ++ wAB K aTp nTp fTp ++ wRo K hRo sRo) sz)) 0 0 (va_A (wRd K hRd rRd2 rRd4 sRd ++ wAB K aTp nTp fTp ++ wRo K hRo sRo) sz) := by
  refine Met.ofW (cc := cX7_readRoad) (maxL := 5) (ret := (some .boolean)) (by decide) rfl ?_
  intro p e s m args below meth c s₁ B hml hv
  obtain ⟨hargs, ⟨hsz, hP, hK, hD0⟩, hZ⟩ := hv
  have hx := B.exec
  have hb := B.bytes
  have hr := B.returns
  have hts := atoms_spec (ws := wz_X7_readRoad) B.pre
  have htl : ∀ w ∈ wsL_law, w.before args s = true := fun w h => hts w (List.mem_cons_of_mem _ h)
  have hown : s.vm.findClass RX7 = some m.cls := findClass_of_methodNamed B.named
  have hlocks := B.notSynchronized
  subst hsz
  have hD := hD0.self (sz := s.heap.size)
  generalize hAe : va_A (wRd K hRd rRd2 rRd4 sRd ++ wAB K aTp nTp fTp ++ wRo K hRo sRo) s.heap.size = A at hD hZ ⊢
  have hA : ∀ q : Nat, s.heap.size ≤ q → A q := fun q h => by rw [← hAe]; exact Or.inr h
  have hS : va_S A s.heap s.heap [] := va_S.rf
  have iX7 : ∀ w ∈ wsX70, w ∈ wz_X7_readRoad := fun w h => List.mem_cons_of_mem _ (inlX7 w h)
  suffices hgo : ∀ Q : State → Prop, Q = MQ below (va_Qi (fun r u => r = res.1 ∧ u = res.2) (fun u t => BW D K A (wRd K hRd aTp (hRo 99) u.1 ++ wAB K aTp nTp fTp ++ wRo K hRo u.2) t) A) args s 0 0 A → W p l e (headSpec wz_X7_readRoad r_X7_readRoad).room s m args below meth c s.heap [] 0 0 Q (entryFrame m args 5) from hgo _ rfl
  intro Q hQ
  have w111 : ∀ (sRd : MS), ∀ (sRo : MS), ∀ (H : Heap) (locs : List Loc) (ls : Array Slot), f_X7_readRoad_111 F nTp fTp p2 sRd sRo = some res → va_P D vwCl (wRd K hRd aTp (hRo 99) sRd ++ wAB K aTp nTp fTp ++ wRo K hRo sRo) H → va_D A (wRd K hRd aTp (hRo 99) sRd ++ wAB K aTp nTp fTp ++ wRo K hRo sRo) → va_S A s.heap H locs → lv_has ls 5 [(0, .ref (hRd 99))] → W p l e (headSpec wz_X7_readRoad r_X7_readRoad).room s m args below meth c H locs 0 0 Q (F0 m 111 ls []) := by
    intro sRd sRo H locs ls hf hP hD hS hl
    unfold f_X7_readRoad_111 at hf
    refine lv_aload_n hx hb dX7_readRoad_111 rfl (lv_at hl 0 rfl) ?_
    refine lv_iconst (v := (1 : Int32)) hx hb dX7_readRoad_112 (by decide) ?_
    obtain ⟨o18, go18, hf⟩ := bd_s hf
    refine rk_Vi (wn := wRd K hRd aTp (hRo 99) o18.2 ++ wAB K aTp nTp fTp ++ wRo K hRo sRo) [wRd K hRd aTp (hRo 99) sRd, wAB K aTp nTp fTp, wRo K hRo sRo] [wRd K hRd aTp (hRo 99) sRd] [wRd K hRd aTp (hRo 99) o18.2] [wRd K hRd aTp (hRo 99) o18.2, wAB K aTp nTp fTp, wRo K hRo sRo] (As := [.int (1 : Int32)]) (rest := []) ⟨hx, hb, hml, hown, hts⟩ (c_X7_failWith l D K F hRd aTp (hRo 99) H.size sRd (1 : Int32) o18 go18) (cwV 1 hts (gcV_X7_failWith (mB12 _ (List.mem_of_getElem? (i := 5) rfl))) rfl rfl rfl hdV_X7_failWith ⟨Nat.le_of_ble_eq_true rfl, Nat.le_of_ble_eq_true rfl⟩) hK hP hD hS hA [0] (fl3 _ _ _) rfl (by decide) (fl1 _) (fl1 _) rfl rfl (fl3 _ _ _) (va_recv hK hP (ci := 6) (q0 := 0) rfl (rwl (rwl o_Rd))) rfl hl.1 rfl (Nat.le_of_ble_eq_true rfl) dX7_readRoad_113 ⟨Nat.zero_le _, Nat.zero_le _⟩ (fun H locs hP hD hS => ?_)
    have hP : va_P D vwCl (wRd K hRd aTp (hRo 99) o18.2 ++ wAB K aTp nTp fTp ++ wRo K hRo sRo) H := hP
    have hD : va_D A (wRd K hRd aTp (hRo 99) o18.2 ++ wAB K aTp nTp fTp ++ wRo K hRo sRo) := hD
    obtain ⟨g19, hf⟩ := gd_s hf
    have e9 := Option.some.inj hf
    rw [hQ]
    exact W.zret (v := o18.1) hx hb hr (bob_s g19) (fun t ht hW => ⟨⟨o18.1, (o18.2, sRo), rfl, ⟨pr1 e9, pr2 e9⟩, ⟨by rw [ht]; exact hP, va_K.moved hW.alike hK, hD⟩⟩, hS.F ht⟩) hS.2.2 dX7_readRoad_116
  have w88 : ∀ (sRd : MS), ∀ (sRo : MS), ∀ (H : Heap) (locs : List Loc) (ls : Array Slot), f_X7_readRoad_88 F nTp fTp p2 sRd sRo = some res → va_P D vwCl (wRd K hRd aTp (hRo 99) sRd ++ wAB K aTp nTp fTp ++ wRo K hRo sRo) H → va_D A (wRd K hRd aTp (hRo 99) sRd ++ wAB K aTp nTp fTp ++ wRo K hRo sRo) → va_S A s.heap H locs → lv_has ls 5 [] → W p l e (headSpec wz_X7_readRoad r_X7_readRoad).room s m args below meth c H locs 0 0 Q (F0 m 88 ls []) := by
    intro sRd sRo H locs ls hf hP hD hS hl
    unfold f_X7_readRoad_88 at hf
    refine lv_iconst (v := (1 : Int32)) hx hb dX7_readRoad_88 (by decide) ?_
    refine lv_goto (tgt := 93) hx hb dX7_readRoad_89 (by decide) ?_
    have e9 := Option.some.inj hf
    rw [hQ]
    exact W.zret (v := (1 : Int32)) hx hb hr rfl (fun t ht hW => ⟨⟨(1 : Int32), (sRd, sRo), rfl, ⟨pr1 e9, pr2 e9⟩, ⟨by rw [ht]; exact hP, va_K.moved hW.alike hK, hD⟩⟩, hS.F ht⟩) hS.2.2 dX7_readRoad_93
  have w69 : ∀ (sRd : MS), ∀ (sRo : MS), ∀ (H : Heap) (locs : List Loc) (ls : Array Slot), f_X7_readRoad_69 F nTp fTp p2 sRd sRo = some res → va_P D vwCl (wRd K hRd aTp (hRo 99) sRd ++ wAB K aTp nTp fTp ++ wRo K hRo sRo) H → va_D A (wRd K hRd aTp (hRo 99) sRd ++ wAB K aTp nTp fTp ++ wRo K hRo sRo) → va_S A s.heap H locs → lv_has ls 5 [(0, .ref (hRd 99))] → W p l e (headSpec wz_X7_readRoad r_X7_readRoad).room s m args below meth c H locs 0 0 Q (F0 m 69 ls []) := by
    intro sRd sRo H locs ls hf hP hD hS hl
    unfold f_X7_readRoad_69 at hf
    refine lv_aload_n hx hb dX7_readRoad_69 rfl (lv_at hl 0 rfl) ?_
    refine va_get (D := D) (ci := 6) (v := .ref (hRo 99)) (C := RX7) (T := TX7) (N := 11) hx hb hts iX7 hown hK hP 0 (rwl (rwl o_Rd)) rfl 4 (by decide) (htl _ (mB3 _ (List.mem_of_getElem? (i := 18) rfl))) (fun _ h9 => h9) rfl dX7_readRoad_70 ?_
    obtain ⟨o14, go14, hf⟩ := bd_s hf
    refine ro_Vi (As := []) (rest := []) ⟨hx, hb, hml, hown, hts⟩ (c_X9_isTold l D K F hRo sRo o14 go14) (cwV 0 hts (gcV_X9_isTold (mB15 _ (List.mem_of_getElem? (i := 9) rfl))) rfl rfl rfl hdV_X9_isTold ⟨Nat.le_of_ble_eq_true rfl, Nat.le_of_ble_eq_true rfl⟩) hK hP hS (va_PL (cs := [wRd K hRd aTp (hRo 99) sRd, wAB K aTp nTp fTp, wRo K hRo sRo]) (cc := [wRo K hRo sRo]) hP (fl3 _ _ _) [2] rfl (fl1 _)) (va_recv hK hP (ci := 8) (q0 := ((3 + 1) + 0)) rfl (rwr (lnA ln_Rd ln_AB) o_Ro)) rfl hl.1 rfl (Nat.le_of_ble_eq_true rfl) dX7_readRoad_73 ⟨Nat.zero_le _, Nat.zero_le _⟩ (fun H locs hP hS => ?_)
    refine lv_if_ne (tgt := 88) hx hb dX7_readRoad_76 (by decide) (fun c15 => ?_) (fun c15 => ?_)
    · have hf := it_f hf c15
      exact w88 sRd sRo H locs ls hf hP hD hS (lv_sub hl [] rfl)
    · have hf := it_t hf c15
      refine lv_aload_n hx hb dX7_readRoad_79 rfl (lv_at hl 0 rfl) ?_
      refine lv_bipush (v := (6 : Int32)) hx hb dX7_readRoad_80 (by decide) ?_
      obtain ⟨o16, go16, hf⟩ := bd_s hf
      refine rk_Vi (wn := wRd K hRd aTp (hRo 99) o16.2 ++ wAB K aTp nTp fTp ++ wRo K hRo sRo) [wRd K hRd aTp (hRo 99) sRd, wAB K aTp nTp fTp, wRo K hRo sRo] [wRd K hRd aTp (hRo 99) sRd] [wRd K hRd aTp (hRo 99) o16.2] [wRd K hRd aTp (hRo 99) o16.2, wAB K aTp nTp fTp, wRo K hRo sRo] (As := [.int (6 : Int32)]) (rest := []) ⟨hx, hb, hml, hown, hts⟩ (c_X7_failWith l D K F hRd aTp (hRo 99) H.size sRd (6 : Int32) o16 go16) (cwV 1 hts (gcV_X7_failWith (mB12 _ (List.mem_of_getElem? (i := 5) rfl))) rfl rfl rfl hdV_X7_failWith ⟨Nat.le_of_ble_eq_true rfl, Nat.le_of_ble_eq_true rfl⟩) hK hP hD hS hA [0] (fl3 _ _ _) rfl (by decide) (fl1 _) (fl1 _) rfl rfl (fl3 _ _ _) (va_recv hK hP (ci := 6) (q0 := 0) rfl (rwl (rwl o_Rd))) rfl hl.1 rfl (Nat.le_of_ble_eq_true rfl) dX7_readRoad_82 ⟨Nat.zero_le _, Nat.zero_le _⟩ (fun H locs hP hD hS => ?_)
      have hP : va_P D vwCl (wRd K hRd aTp (hRo 99) o16.2 ++ wAB K aTp nTp fTp ++ wRo K hRo sRo) H := hP
      have hD : va_D A (wRd K hRd aTp (hRo 99) o16.2 ++ wAB K aTp nTp fTp ++ wRo K hRo sRo) := hD
      refine lv_if_eq (tgt := 92) hx hb dX7_readRoad_85 (by decide) (fun c17 => ?_) (fun c17 => ?_)
      · have hf := it_t hf c17
        refine lv_iconst (v := (0 : Int32)) hx hb dX7_readRoad_92 (by decide) ?_
        have e9 := Option.some.inj hf
        rw [hQ]
        exact W.zret (v := (0 : Int32)) hx hb hr rfl (fun t ht hW => ⟨⟨(0 : Int32), (o16.2, sRo), rfl, ⟨pr1 e9, pr2 e9⟩, ⟨by rw [ht]; exact hP, va_K.moved hW.alike hK, hD⟩⟩, hS.F ht⟩) hS.2.2 dX7_readRoad_93
      · have hf := it_f hf c17
        exact w88 o16.2 sRo H locs ls hf hP hD hS (lv_sub hl [] rfl)
  have w44 : ∀ (n : Nat), ∀ (x4 : Int32), ∀ (sRd : MS), ∀ (sRo : MS), ∀ (H : Heap) (locs : List Loc) (ls : Array Slot), f_X7_readRoad_44 F nTp fTp p2 n x4 sRd sRo = some res → va_P D vwCl (wRd K hRd aTp (hRo 99) sRd ++ wAB K aTp nTp fTp ++ wRo K hRo sRo) H → va_D A (wRd K hRd aTp (hRo 99) sRd ++ wAB K aTp nTp fTp ++ wRo K hRo sRo) → va_S A s.heap H locs → lv_has ls 5 [(0, .ref (hRd 99)), (4, .int x4)] → W p l e (headSpec wz_X7_readRoad r_X7_readRoad).room s m args below meth c H locs 0 0 Q (F0 m 44 ls []) := by
    intro n
    induction n with
    | zero =>
      intro x4 sRd sRo H locs ls hf
      exact absurd (show none = some res from hf) (fun h => nomatch h)
    | succ n ih =>
      intro x4 sRd sRo H locs ls hf hP hD hS hl
      rw [f_X7_readRoad_44] at hf
      refine lv_iload hx hb dX7_readRoad_44 (lv_at hl 1 rfl) ?_
      refine lv_aload_n hx hb dX7_readRoad_46 rfl (lv_at hl 0 rfl) ?_
      refine va_get (D := D) (ci := 6) (v := .int (sRd.1 3)) (C := RX7) (T := TX7) (N := 11) hx hb hts iX7 hown hK hP 0 (rwl (rwl o_Rd)) rfl 3 (by decide) (htl _ (mB8 _ (List.mem_of_getElem? (i := 3) rfl))) (fun _ h9 => h9) rfl dX7_readRoad_47 ?_
      refine lv_icmp_gt (tgt := 111) hx hb dX7_readRoad_50 (by decide) (fun c7 => ?_) (fun c7 => ?_)
      · have hf := it_t hf c7
        exact w111 sRd sRo H locs ls hf hP hD hS (lv_sub hl [0] rfl)
      · have hf := it_f hf c7
        refine lv_aload_n hx hb dX7_readRoad_53 rfl (lv_at hl 0 rfl) ?_
        obtain ⟨o8, go8, hf⟩ := bd_s hf
        refine rs_Viz (As := []) (rest := []) ⟨hx, hb, hml, hown, hts⟩ (c_X7_readLine l D K F adK adV tF hRd aTp nTp hRo H.size sRd fTp sRo o8 go8) (cwV 0 hts (gcV_X7_readLine (mB9 _ (List.mem_of_getElem? (i := 15) rfl))) rfl rfl rfl hdV_X7_readLine ⟨Nat.le_of_ble_eq_true rfl, Nat.le_of_ble_eq_true rfl⟩) hK hP hD hS hA hZ (va_recv hK hP (ci := 6) (q0 := 0) rfl (rwl (rwl o_Rd))) rfl hl.1 rfl (Nat.le_of_ble_eq_true rfl) dX7_readRoad_54 ⟨Nat.zero_le _, Nat.zero_le _⟩ (fun H locs hP hD hS => ?_)
        have hP : va_P D vwCl (wRd K hRd aTp (hRo 99) o8.2.1 ++ wAB K aTp nTp fTp ++ wRo K hRo o8.2.2) H := hP
        have hD : va_D A (wRd K hRd aTp (hRo 99) o8.2.1 ++ wAB K aTp nTp fTp ++ wRo K hRo o8.2.2) := hD
        refine lv_if_ne (tgt := 62) hx hb dX7_readRoad_57 (by decide) (fun c9 => ?_) (fun c9 => ?_)
        · have hf := it_f hf c9
          refine lv_aload_n hx hb dX7_readRoad_62 rfl (lv_at hl 0 rfl) ?_
          refine va_get (D := D) (ci := 6) (v := .int (o8.2.1.1 5)) (C := RX7) (T := TX7) (N := 11) hx hb hts iX7 hown hK hP 0 (rwl (rwl o_Rd)) rfl 5 (by decide) (htl _ (mB8 _ (List.mem_of_getElem? (i := 7) rfl))) (fun _ h9 => h9) rfl dX7_readRoad_63 ?_
          refine lv_if_ne (tgt := 94) hx hb dX7_readRoad_66 (by decide) (fun c10 => ?_) (fun c10 => ?_)
          · have hf := it_f hf c10
            refine lv_aload_n hx hb dX7_readRoad_94 rfl (lv_at hl 0 rfl) ?_
            refine lv_bipush (v := (59 : Int32)) hx hb dX7_readRoad_95 (by decide) ?_
            obtain ⟨o11, go11, hf⟩ := bd_s hf
            refine rk_Vi (wn := wRd K hRd aTp (hRo 99) o11.2 ++ wAB K aTp nTp fTp ++ wRo K hRo o8.2.2) [wRd K hRd aTp (hRo 99) o8.2.1, wAB K aTp nTp fTp, wRo K hRo o8.2.2] [wRd K hRd aTp (hRo 99) o8.2.1, wAB K aTp nTp fTp] [wRd K hRd aTp (hRo 99) o11.2, wAB K aTp nTp fTp] [wRd K hRd aTp (hRo 99) o11.2, wAB K aTp nTp fTp, wRo K hRo o8.2.2] (As := [.int (59 : Int32)]) (rest := []) ⟨hx, hb, hml, hown, hts⟩ (c_X7_passSign l D K F hRd (hRo 99) aTp nTp H.size o8.2.1 fTp (59 : Int32) o11 go11) (cwV 1 hts (gcV_X7_passSign (mB13 _ (List.mem_of_getElem? (i := 6) rfl))) rfl rfl rfl hdV_X7_passSign ⟨Nat.le_of_ble_eq_true rfl, Nat.le_of_ble_eq_true rfl⟩) hK hP hD hS hA [0, 1] (fl3 _ _ _) rfl (by decide) (fl2 _ _) (fl2 _ _) rfl rfl (fl3 _ _ _) (va_recv hK hP (ci := 6) (q0 := 0) rfl (rwl (rwl o_Rd))) rfl hl.1 rfl (Nat.le_of_ble_eq_true rfl) dX7_readRoad_97 ⟨Nat.zero_le _, Nat.zero_le _⟩ (fun H locs hP hD hS => ?_)
            have hP : va_P D vwCl (wRd K hRd aTp (hRo 99) o11.2 ++ wAB K aTp nTp fTp ++ wRo K hRo o8.2.2) H := hP
            have hD : va_D A (wRd K hRd aTp (hRo 99) o11.2 ++ wAB K aTp nTp fTp ++ wRo K hRo o8.2.2) := hD
            refine lv_if_ne (tgt := 105) hx hb dX7_readRoad_100 (by decide) (fun c12 => ?_) (fun c12 => ?_)
            · have hf := it_f hf c12
              obtain ⟨v13, ev13⟩ : ∃ z : Int32, z = x4 + (1 : Int32) := ⟨_, rfl⟩
              have hf := lz_s hf v13 ev13
              refine lv_iinc (v := v13) (lv' := [(4, .int v13), (0, .ref (hRd 99))]) hx hb dX7_readRoad_105 hl (k := 1) rfl (by rw [ev13]; rfl) (by decide) rfl (fun ls hl => ?_)
              refine lv_goto (tgt := 44) hx hb dX7_readRoad_108 (by decide) ?_
              exact ih v13 o11.2 o8.2.2 H locs ls hf hP hD hS (lv_sub hl [1, 0] rfl)
            · have hf := it_t hf c12
              refine lv_iconst (v := (0 : Int32)) hx hb dX7_readRoad_103 (by decide) ?_
              have e9 := Option.some.inj hf
              rw [hQ]
              exact W.zret (v := (0 : Int32)) hx hb hr rfl (fun t ht hW => ⟨⟨(0 : Int32), (o11.2, o8.2.2), rfl, ⟨pr1 e9, pr2 e9⟩, ⟨by rw [ht]; exact hP, va_K.moved hW.alike hK, hD⟩⟩, hS.F ht⟩) hS.2.2 dX7_readRoad_104
          · have hf := it_t hf c10
            exact w69 o8.2.1 o8.2.2 H locs ls hf hP hD hS (lv_sub hl [0] rfl)
        · have hf := it_t hf c9
          refine lv_iconst (v := (0 : Int32)) hx hb dX7_readRoad_60 (by decide) ?_
          have e9 := Option.some.inj hf
          rw [hQ]
          exact W.zret (v := (0 : Int32)) hx hb hr rfl (fun t ht hW => ⟨⟨(0 : Int32), (o8.2.1, o8.2.2), rfl, ⟨pr1 e9, pr2 e9⟩, ⟨by rw [ht]; exact hP, va_K.moved hW.alike hK, hD⟩⟩, hS.F ht⟩) hS.2.2 dX7_readRoad_61
  have hen : entryFrame m args 5 = entryFrame m (([.ref (hRd 99), .ref aTp, .int p2, .ref (hRo 99)] : List Value).toArray) 5 := by rw [hargs]
  have hl := lv_entry ([.ref (hRd 99), .ref aTp, .int p2, .ref (hRo 99)]) (n := 5) (Nat.le_of_ble_eq_true rfl)
  rw [hen, lg_entry_eq]
  generalize (lg_sl ([.ref (hRd 99), .ref aTp, .int p2, .ref (hRo 99)]) ++ List.replicate (5 - (lg_sl ([.ref (hRd 99), .ref aTp, .int p2, .ref (hRo 99)])).length) Slot.unset).toArray = ls at hl ⊢
  have hl : lv_has ls 5 [(0, .ref (hRd 99)), (1, .ref aTp), (2, .int p2), (3, .ref (hRo 99))] := hl
  unfold f_X7_readRoad at hf
  obtain ⟨H, hHe⟩ : ∃ z, z = s.heap := ⟨_, rfl⟩
  obtain ⟨locs, hLe⟩ : ∃ z : List Loc, z = [] := ⟨_, rfl⟩
  rw [← hLe]
  have hS : va_S A s.heap H locs := by rw [hHe, hLe]; exact hS
  have hP : va_P D vwCl (wRd K hRd rRd2 rRd4 sRd ++ wAB K aTp nTp fTp ++ wRo K hRo sRo) H := by rw [hHe]; exact hP
  have hgo : W p l e (headSpec wz_X7_readRoad r_X7_readRoad).room s m args below meth c H locs 0 0 Q (F0 m 0 ls []) := by
    refine lv_aload_n hx hb dX7_readRoad_0 rfl (lv_at hl 0 rfl) ?_
    refine lv_aload_n hx hb dX7_readRoad_1 rfl (lv_at hl 1 rfl) ?_
    refine va_put (D := D) (ci := 6) (v := .ref aTp) (ty := .array .byte) (C := RX7) (T := TX7) (N := 11) hx hb hts iX7 tyX7 tyX7_ok nmX7 hown hK hP hD hS 0 (rwl (rwl o_Rd)) rfl 2 (by decide) (htl _ (mB3 _ (List.mem_of_getElem? (i := 16) rfl))) (fun _ h9 => h9) rfl (by decide +kernel) rfl rfl (Nat.le_of_ble_eq_true rfl) dX7_readRoad_2 (fun H locs hP hD hS => ?_)
    have hP := cvP (stl (stl si_Rd_2 (rlt o_Rd)) (rlt (rwl o_Rd))) hP
    have hD := cvD (stl (stl si_Rd_2 (rlt o_Rd)) (rlt (rwl o_Rd))) hD
    have hP : va_P D vwCl (wRd K hRd aTp rRd4 sRd ++ wAB K aTp nTp fTp ++ wRo K hRo sRo) H := hP
    have hD : va_D A (wRd K hRd aTp rRd4 sRd ++ wAB K aTp nTp fTp ++ wRo K hRo sRo) := hD
    refine lv_aload_n hx hb dX7_readRoad_5 rfl (lv_at hl 0 rfl) ?_
    refine lv_iload_n hx hb dX7_readRoad_6 rfl (lv_at hl 2 rfl) ?_
    refine va_put (D := D) (ci := 6) (v := .int p2) (ty := .int) (C := RX7) (T := TX7) (N := 11) hx hb hts iX7 tyX7 tyX7_ok nmX7 hown hK hP hD hS 0 (rwl (rwl o_Rd)) rfl 3 (by decide) (htl _ (mB8 _ (List.mem_of_getElem? (i := 3) rfl))) (fun _ h9 => h9) rfl (by decide +kernel) rfl rfl (Nat.le_of_ble_eq_true rfl) dX7_readRoad_7 (fun H locs hP hD hS => ?_)
    have hP := cvP (stl (stl si_Rd_3 (rlt o_Rd)) (rlt (rwl o_Rd))) hP
    have hD := cvD (stl (stl si_Rd_3 (rlt o_Rd)) (rlt (rwl o_Rd))) hD
    obtain ⟨s1, es1⟩ : ∃ z, z = sI sRd 3 p2 := ⟨_, rfl⟩
    have hP : va_P D vwCl (wRd K hRd aTp rRd4 s1 ++ wAB K aTp nTp fTp ++ wRo K hRo sRo) H := by rw [es1]; exact hP
    have hD : va_D A (wRd K hRd aTp rRd4 s1 ++ wAB K aTp nTp fTp ++ wRo K hRo sRo) := by rw [es1]; exact hD
    have hf := lz_s hf s1 es1
    refine lv_aload_n hx hb dX7_readRoad_10 rfl (lv_at hl 0 rfl) ?_
    refine lv_aload_n hx hb dX7_readRoad_11 rfl (lv_at hl 3 rfl) ?_
    refine va_put (D := D) (ci := 6) (v := .ref (hRo 99)) (ty := .object "LastsToNext$Road") (C := RX7) (T := TX7) (N := 11) hx hb hts iX7 tyX7 tyX7_ok nmX7 hown hK hP hD hS 0 (rwl (rwl o_Rd)) rfl 4 (by decide) (htl _ (mB3 _ (List.mem_of_getElem? (i := 18) rfl))) (fun _ h9 => h9) rfl (by decide +kernel) rfl rfl (Nat.le_of_ble_eq_true rfl) dX7_readRoad_12 (fun H locs hP hD hS => ?_)
    have hP := cvP (stl (stl si_Rd_4 (rlt o_Rd)) (rlt (rwl o_Rd))) hP
    have hD := cvD (stl (stl si_Rd_4 (rlt o_Rd)) (rlt (rwl o_Rd))) hD
    have hP : va_P D vwCl (wRd K hRd aTp (hRo 99) s1 ++ wAB K aTp nTp fTp ++ wRo K hRo sRo) H := hP
    have hD : va_D A (wRd K hRd aTp (hRo 99) s1 ++ wAB K aTp nTp fTp ++ wRo K hRo sRo) := hD
    refine lv_aload_n hx hb dX7_readRoad_15 rfl (lv_at hl 0 rfl) ?_
    refine va_get (D := D) (ci := 6) (v := .ref (hRo 99)) (C := RX7) (T := TX7) (N := 11) hx hb hts iX7 hown hK hP 0 (rwl (rwl o_Rd)) rfl 4 (by decide) (htl _ (mB3 _ (List.mem_of_getElem? (i := 18) rfl))) (fun _ h9 => h9) rfl dX7_readRoad_16 ?_
    obtain ⟨o2, go2, hf⟩ := bd_s hf
    refine rk_Vv (wn := wRd K hRd aTp (hRo 99) s1 ++ wAB K aTp nTp fTp ++ wRo K hRo o2) [wRd K hRd aTp (hRo 99) s1, wAB K aTp nTp fTp, wRo K hRo sRo] [wRo K hRo sRo] [wRo K hRo o2] [wRd K hRd aTp (hRo 99) s1, wAB K aTp nTp fTp, wRo K hRo o2] (As := []) (rest := []) ⟨hx, hb, hml, hown, hts⟩ (c_X9_clear l D K F hRo H.size sRo o2 go2) (cwV 0 hts (gcV_X9_clear (mB8 _ (List.mem_of_getElem? (i := 8) rfl))) rfl rfl rfl hdV_X9_clear ⟨Nat.le_of_ble_eq_true rfl, Nat.le_of_ble_eq_true rfl⟩) hK hP hD hS hA [2] (fl3 _ _ _) rfl (by decide) (fl1 _) (fl1 _) rfl rfl (fl3 _ _ _) (va_recv hK hP (ci := 8) (q0 := ((3 + 1) + 0)) rfl (rwr (lnA ln_Rd ln_AB) o_Ro)) rfl hl.1 rfl (Nat.le_of_ble_eq_true rfl) dX7_readRoad_19 ⟨Nat.zero_le _, Nat.zero_le _⟩ (fun H locs hP hD hS => ?_)
    have hP : va_P D vwCl (wRd K hRd aTp (hRo 99) s1 ++ wAB K aTp nTp fTp ++ wRo K hRo o2) H := hP
    have hD : va_D A (wRd K hRd aTp (hRo 99) s1 ++ wAB K aTp nTp fTp ++ wRo K hRo o2) := hD
    refine lv_aload_n hx hb dX7_readRoad_22 rfl (lv_at hl 0 rfl) ?_
    refine lv_iconst (v := (0 : Int32)) hx hb dX7_readRoad_23 (by decide) ?_
    refine va_put (D := D) (ci := 6) (v := .int (0 : Int32)) (ty := .int) (C := RX7) (T := TX7) (N := 11) hx hb hts iX7 tyX7 tyX7_ok nmX7 hown hK hP hD hS 0 (rwl (rwl o_Rd)) rfl 0 (by decide) (htl _ (mB8 _ (List.mem_of_getElem? (i := 4) rfl))) (fun _ h9 => h9) rfl (by decide +kernel) rfl rfl (Nat.le_of_ble_eq_true rfl) dX7_readRoad_24 (fun H locs hP hD hS => ?_)
    have hP := cvP (stl (stl si_Rd_0 (rlt o_Rd)) (rlt (rwl o_Rd))) hP
    have hD := cvD (stl (stl si_Rd_0 (rlt o_Rd)) (rlt (rwl o_Rd))) hD
    obtain ⟨s3, es3⟩ : ∃ z, z = sI s1 0 (0 : Int32) := ⟨_, rfl⟩
    have hP : va_P D vwCl (wRd K hRd aTp (hRo 99) s3 ++ wAB K aTp nTp fTp ++ wRo K hRo o2) H := by rw [es3]; exact hP
    have hD : va_D A (wRd K hRd aTp (hRo 99) s3 ++ wAB K aTp nTp fTp ++ wRo K hRo o2) := by rw [es3]; exact hD
    have hf := lz_s hf s3 es3
    refine lv_aload_n hx hb dX7_readRoad_27 rfl (lv_at hl 0 rfl) ?_
    refine lv_iconst (v := (-1 : Int32)) hx hb dX7_readRoad_28 (by decide) ?_
    refine va_put (D := D) (ci := 6) (v := .int (-1 : Int32)) (ty := .int) (C := RX7) (T := TX7) (N := 11) hx hb hts iX7 tyX7 tyX7_ok nmX7 hown hK hP hD hS 0 (rwl (rwl o_Rd)) rfl 1 (by decide) (htl _ (mB8 _ (List.mem_of_getElem? (i := 5) rfl))) (fun _ h9 => h9) rfl (by decide +kernel) rfl rfl (Nat.le_of_ble_eq_true rfl) dX7_readRoad_29 (fun H locs hP hD hS => ?_)
    have hP := cvP (stl (stl si_Rd_1 (rlt o_Rd)) (rlt (rwl o_Rd))) hP
    have hD := cvD (stl (stl si_Rd_1 (rlt o_Rd)) (rlt (rwl o_Rd))) hD
    obtain ⟨s4, es4⟩ : ∃ z, z = sI s3 1 (-1 : Int32) := ⟨_, rfl⟩
    have hP : va_P D vwCl (wRd K hRd aTp (hRo 99) s4 ++ wAB K aTp nTp fTp ++ wRo K hRo o2) H := by rw [es4]; exact hP
    have hD : va_D A (wRd K hRd aTp (hRo 99) s4 ++ wAB K aTp nTp fTp ++ wRo K hRo o2) := by rw [es4]; exact hD
    have hf := lz_s hf s4 es4
    refine lv_aload_n hx hb dX7_readRoad_32 rfl (lv_at hl 0 rfl) ?_
    refine lv_iconst (v := (0 : Int32)) hx hb dX7_readRoad_33 (by decide) ?_
    refine va_put (D := D) (ci := 6) (v := .int (0 : Int32)) (ty := .int) (C := RX7) (T := TX7) (N := 11) hx hb hts iX7 tyX7 tyX7_ok nmX7 hown hK hP hD hS 0 (rwl (rwl o_Rd)) rfl 7 (by decide) (htl _ (mB8 _ (List.mem_of_getElem? (i := 6) rfl))) (fun _ h9 => h9) rfl (by decide +kernel) rfl rfl (Nat.le_of_ble_eq_true rfl) dX7_readRoad_34 (fun H locs hP hD hS => ?_)
    have hP := cvP (stl (stl si_Rd_7 (rlt o_Rd)) (rlt (rwl o_Rd))) hP
    have hD := cvD (stl (stl si_Rd_7 (rlt o_Rd)) (rlt (rwl o_Rd))) hD
    obtain ⟨s5, es5⟩ : ∃ z, z = sI s4 7 (0 : Int32) := ⟨_, rfl⟩
    have hP : va_P D vwCl (wRd K hRd aTp (hRo 99) s5 ++ wAB K aTp nTp fTp ++ wRo K hRo o2) H := by rw [es5]; exact hP
    have hD : va_D A (wRd K hRd aTp (hRo 99) s5 ++ wAB K aTp nTp fTp ++ wRo K hRo o2) := by rw [es5]; exact hD
    have hf := lz_s hf s5 es5
    refine lv_aload_n hx hb dX7_readRoad_37 rfl (lv_at hl 0 rfl) ?_
    obtain ⟨o6, go6, hf⟩ := bd_s hf
    refine rk_Vv (wn := wRd K hRd aTp (hRo 99) o6 ++ wAB K aTp nTp fTp ++ wRo K hRo o2) [wRd K hRd aTp (hRo 99) s5, wAB K aTp nTp fTp, wRo K hRo o2] [wRd K hRd aTp (hRo 99) s5, wAB K aTp nTp fTp] [wRd K hRd aTp (hRo 99) o6, wAB K aTp nTp fTp] [wRd K hRd aTp (hRo 99) o6, wAB K aTp nTp fTp, wRo K hRo o2] (As := []) (rest := []) ⟨hx, hb, hml, hown, hts⟩ (c_X7_lookOn l D K F hRd (hRo 99) aTp nTp H.size s5 fTp o6 go6) (cwV 0 hts (gcV_X7_lookOn (mB9 _ (List.mem_of_getElem? (i := 2) rfl))) rfl rfl rfl hdV_X7_lookOn ⟨Nat.le_of_ble_eq_true rfl, Nat.le_of_ble_eq_true rfl⟩) hK hP hD hS hA [0, 1] (fl3 _ _ _) rfl (by decide) (fl2 _ _) (fl2 _ _) rfl rfl (fl3 _ _ _) (va_recv hK hP (ci := 6) (q0 := 0) rfl (rwl (rwl o_Rd))) rfl hl.1 rfl (Nat.le_of_ble_eq_true rfl) dX7_readRoad_38 ⟨Nat.zero_le _, Nat.zero_le _⟩ (fun H locs hP hD hS => ?_)
    have hP : va_P D vwCl (wRd K hRd aTp (hRo 99) o6 ++ wAB K aTp nTp fTp ++ wRo K hRo o2) H := hP
    have hD : va_D A (wRd K hRd aTp (hRo 99) o6 ++ wAB K aTp nTp fTp ++ wRo K hRo o2) := hD
    refine lv_iconst (v := (0 : Int32)) hx hb dX7_readRoad_41 (by decide) ?_
    refine lv_istore (lv' := [(4, .int (0 : Int32)), (0, .ref (hRd 99)), (1, .ref aTp), (2, .int p2), (3, .ref (hRo 99))]) hx hb dX7_readRoad_42 hl (by decide) rfl (fun ls hl => ?_)
    exact w44 F (0 : Int32) o6 o2 H locs ls hf hP hD hS (lv_sub hl [1, 0] rfl)
  rw [hHe] at hgo
  exact hgo
