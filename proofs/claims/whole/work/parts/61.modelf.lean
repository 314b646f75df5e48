def wz_X11_endWay : List Cond := .code yX11_endWay cX11_endWay 4 none :: wsL_law
abbrev r_X11_endWay : Room := { frames := 0, cells := 0, slots := 0, locals := 0 }
set_option maxHeartbeats 4000000 in
set_option maxRecDepth 100000 in
theorem c_X11_endWay (l : Launch) (D : va_G) (K : Nat → ClassId) (F : Nat) (hMo : Nat → Nat) (sz : Nat) (sMo : MS) (p1 : Int32) (p2 : Int32) (res : MS) (hf : f_X11_endWay F p1 p2 sMo = some res) : Met l yX11_endWay wz_X11_endWay r_X11_endWay (va_Pc [.ref (hMo 99), .int p1, .int p2] (PW D K (wMo K hMo sMo) sz)) (va_Qv (fun u => u = res) (fun u t => BW D K (va_A (wMo K hMo sMo) sz) (wMo K hMo u) t) (va_A (wMo K hMo sMo) sz)) 0 0 (va_A (wMo K hMo sMo) sz) := by
  refine Met.ofW (cc := cX11_endWay) (maxL := 4) (ret := none) (by decide) rfl ?_
  intro p e s m args below meth c s₁ B hml hv
  obtain ⟨hargs, hsz, hP, hK, hD0⟩ := hv
  have hx := B.exec
  have hb := B.bytes
  have hr := B.returns
  have hts := atoms_spec (ws := wz_X11_endWay) B.pre
  have htl : ∀ w ∈ wsL_law, w.before args s = true := fun w h => hts w (List.mem_cons_of_mem _ h)
  have hown : s.vm.findClass RX11 = some m.cls := findClass_of_methodNamed B.named
  have hlocks := B.notSynchronized
  subst hsz
  have hD := hD0.self (sz := s.heap.size)
  generalize hAe : va_A (wMo K hMo sMo) s.heap.size = A at hD ⊢
  have hA : ∀ q : Nat, s.heap.size ≤ q → A q := fun q h => by rw [← hAe]; exact Or.inr h
  have hS : va_S A s.heap s.heap [] := va_S.rf
  have iX11 : ∀ w ∈ wsX110, w ∈ wz_X11_endWay := fun w h => List.mem_cons_of_mem _ (inlX11 w h)
  suffices hgo : ∀ Q : State → Prop, Q = MQ below (va_Qv (fun u => u = res) (fun u t => BW D K A (wMo K hMo u) t) A) args s 0 0 A → W p l e (headSpec wz_X11_endWay r_X11_endWay).room s m args below meth c s.heap [] 0 0 Q (entryFrame m args 4) from hgo _ rfl
  intro Q hQ
  have w46 : ∀ (sMo : MS), ∀ (H : Heap) (locs : List Loc) (ls : Array Slot), f_X11_endWay_46 F p1 p2 sMo = some res → va_P D vwCl (wMo K hMo sMo) H → va_D A (wMo K hMo sMo) → va_S A s.heap H locs → lv_has ls 4 [(0, .ref (hMo 99)), (2, .int p2)] → W p l e (headSpec wz_X11_endWay r_X11_endWay).room s m args below meth c H locs 0 0 Q (F0 m 46 ls []) := by
    intro sMo H locs ls hf hP hD hS hl
    unfold f_X11_endWay_46 at hf
    refine lv_aload_n hx hb dX11_endWay_46 rfl (lv_at hl 0 rfl) ?_
    refine lv_dup hx hb dX11_endWay_47 rfl ?_
    refine va_get (D := D) (ci := 10) (v := .int (sMo.1 36)) (C := RX11) (T := TX11) (N := 41) hx hb hts iX11 hown hK hP 0 o_Mo rfl 36 (by decide) (htl _ (mB57 _ (List.mem_of_getElem? (i := 4) rfl))) (fun _ h9 => h9) rfl dX11_endWay_48 ?_
    refine lv_iconst (v := (1 : Int32)) hx hb dX11_endWay_51 (by decide) ?_
    refine lv_iadd hx hb dX11_endWay_52 ?_
    refine lv_topi (fun v9 ev9 => ?_)
    have hf := lz_s hf v9 ev9
    refine va_put (D := D) (ci := 10) (v := .int v9) (ty := .int) (C := RX11) (T := TX11) (N := 41) hx hb hts iX11 tyX11 tyX11_ok nmX11 hown hK hP hD hS 0 o_Mo rfl 36 (by decide) (htl _ (mB57 _ (List.mem_of_getElem? (i := 4) rfl))) (fun _ h9 => h9) rfl (by decide +kernel) rfl rfl (Nat.le_of_ble_eq_true rfl) dX11_endWay_53 (fun H locs hP hD hS => ?_)
    have hP := cvP si_Mo_36 hP
    have hD := cvD si_Mo_36 hD
    obtain ⟨s10, es10⟩ : ∃ z, z = sI sMo 36 v9 := ⟨_, rfl⟩
    have hP : va_P D vwCl (wMo K hMo s10) H := by rw [es10]; exact hP
    have hD : va_D A (wMo K hMo s10) := by rw [es10]; exact hD
    have hf := lz_s hf s10 es10
    refine lv_aload_n hx hb dX11_endWay_56 rfl (lv_at hl 0 rfl) ?_
    refine lv_dup hx hb dX11_endWay_57 rfl ?_
    refine va_get (D := D) (ci := 10) (v := .int (s10.1 37)) (C := RX11) (T := TX11) (N := 41) hx hb hts iX11 hown hK hP 0 o_Mo rfl 37 (by decide) (htl _ (mB57 _ (List.mem_of_getElem? (i := 11) rfl))) (fun _ h9 => h9) rfl dX11_endWay_58 ?_
    refine lv_iload_n hx hb dX11_endWay_61 rfl (lv_at hl 1 rfl) ?_
    refine lv_iand hx hb dX11_endWay_62 ?_
    refine va_put (D := D) (ci := 10) (v := .int ((s10.1 37) &&& p2)) (ty := .int) (C := RX11) (T := TX11) (N := 41) hx hb hts iX11 tyX11 tyX11_ok nmX11 hown hK hP hD hS 0 o_Mo rfl 37 (by decide) (htl _ (mB57 _ (List.mem_of_getElem? (i := 11) rfl))) (fun _ h9 => h9) rfl (by decide +kernel) rfl rfl (Nat.le_of_ble_eq_true rfl) dX11_endWay_63 (fun H locs hP hD hS => ?_)
    have hP := cvP si_Mo_37 hP
    have hD := cvD si_Mo_37 hD
    obtain ⟨s11, es11⟩ : ∃ z, z = sI s10 37 ((s10.1 37) &&& p2) := ⟨_, rfl⟩
    have hP : va_P D vwCl (wMo K hMo s11) H := by rw [es11]; exact hP
    have hD : va_D A (wMo K hMo s11) := by rw [es11]; exact hD
    have hf := lz_s hf s11 es11
    refine lv_aload_n hx hb dX11_endWay_66 rfl (lv_at hl 0 rfl) ?_
    refine lv_dup hx hb dX11_endWay_67 rfl ?_
    refine va_get (D := D) (ci := 10) (v := .int (s11.1 38)) (C := RX11) (T := TX11) (N := 41) hx hb hts iX11 hown hK hP 0 o_Mo rfl 38 (by decide) (htl _ (mB57 _ (List.mem_of_getElem? (i := 12) rfl))) (fun _ h9 => h9) rfl dX11_endWay_68 ?_
    refine lv_iload_n hx hb dX11_endWay_71 rfl (lv_at hl 1 rfl) ?_
    refine lv_ior hx hb dX11_endWay_72 ?_
    refine va_put (D := D) (ci := 10) (v := .int ((s11.1 38) ||| p2)) (ty := .int) (C := RX11) (T := TX11) (N := 41) hx hb hts iX11 tyX11 tyX11_ok nmX11 hown hK hP hD hS 0 o_Mo rfl 38 (by decide) (htl _ (mB57 _ (List.mem_of_getElem? (i := 12) rfl))) (fun _ h9 => h9) rfl (by decide +kernel) rfl rfl (Nat.le_of_ble_eq_true rfl) dX11_endWay_73 (fun H locs hP hD hS => ?_)
    have hP := cvP si_Mo_38 hP
    have hD := cvD si_Mo_38 hD
    obtain ⟨s12, es12⟩ : ∃ z, z = sI s11 38 ((s11.1 38) ||| p2) := ⟨_, rfl⟩
    have hP : va_P D vwCl (wMo K hMo s12) H := by rw [es12]; exact hP
    have hD : va_D A (wMo K hMo s12) := by rw [es12]; exact hD
    have hf := lz_s hf s12 es12
    have e9 := Option.some.inj hf
    rw [hQ]
    exact W.vret hx hb hr (fun t ht hW => ⟨⟨s12, rfl, e9, ⟨by rw [ht]; exact hP, va_K.moved hW.alike hK, hD⟩⟩, hS.F ht⟩) hS.2.2 dX11_endWay_76
  have w39 : ∀ (k13 : Int32 → MS → Option MS), (∀ (x3 : Int32), ∀ (sMo : MS), ∀ (H : Heap) (locs : List Loc) (ls : Array Slot), k13 x3 sMo = some res → va_P D vwCl (wMo K hMo sMo) H → va_D A (wMo K hMo sMo) → va_S A s.heap H locs → lv_has ls 4 [(0, .ref (hMo 99)), (1, .int p1), (2, .int p2), (3, .int x3)] → W p l e (headSpec wz_X11_endWay r_X11_endWay).room s m args below meth c H locs 0 0 Q (F0 m 13 ls [])) → ∀ (x3 : Int32), ∀ (y1 : Int32), ∀ (y2 : Int32), ∀ (sMo : MS), ∀ (H : Heap) (locs : List Loc) (ls : Array Slot), f_X11_endWay_39 F p1 p2 k13 x3 y1 y2 sMo = some res → va_P D vwCl (wMo K hMo sMo) H → va_D A (wMo K hMo sMo) → va_S A s.heap H locs → lv_has ls 4 [(0, .ref (hMo 99)), (1, .int p1), (2, .int p2), (3, .int x3)] → W p l e (headSpec wz_X11_endWay r_X11_endWay).room s m args below meth c H locs 0 0 Q (F0 m 39 ls [.int y2, .int y1, .ref (hMo 34)]) := by
    intro k13 hk13 x3 y1 y2 sMo H locs ls hf hP hD hS hl
    unfold f_X11_endWay_39 at hf
    obtain ⟨g6, hf⟩ := gd_s hf
    refine va_iast hx hb hK hP hD hS 17 0 (f := sMo.2.2.1 34) a_Mo_34 rfl (vpb_in g6) dX11_endWay_39 (fun H locs hP hD hS => ?_)
    have hP := cvP sa_Mo_34 hP
    have hD := cvD sa_Mo_34 hD
    obtain ⟨s7, es7⟩ : ∃ z, z = sA sMo 34 y1.toNatClampNeg y2 := ⟨_, rfl⟩
    have hP : va_P D vwCl (wMo K hMo s7) H := by rw [es7]; exact hP
    have hD : va_D A (wMo K hMo s7) := by rw [es7]; exact hD
    have hf := lz_s hf s7 es7
    obtain ⟨v8, ev8⟩ : ∃ z : Int32, z = x3 + (1 : Int32) := ⟨_, rfl⟩
    have hf := lz_s hf v8 ev8
    refine lv_iinc (v := v8) (lv' := [(3, .int v8), (0, .ref (hMo 99)), (1, .int p1), (2, .int p2)]) hx hb dX11_endWay_40 hl (k := 3) rfl (by rw [ev8]; rfl) (by decide) rfl (fun ls hl => ?_)
    refine lv_goto (tgt := 13) hx hb dX11_endWay_43 (by decide) ?_
    exact hk13 v8 s7 H locs ls hf hP hD hS (lv_sub hl [1, 2, 3, 0] rfl)
  have w13 : ∀ (n : Nat), ∀ (x3 : Int32), ∀ (sMo : MS), ∀ (H : Heap) (locs : List Loc) (ls : Array Slot), f_X11_endWay_13 F p1 p2 n x3 sMo = some res → va_P D vwCl (wMo K hMo sMo) H → va_D A (wMo K hMo sMo) → va_S A s.heap H locs → lv_has ls 4 [(0, .ref (hMo 99)), (1, .int p1), (2, .int p2), (3, .int x3)] → W p l e (headSpec wz_X11_endWay r_X11_endWay).room s m args below meth c H locs 0 0 Q (F0 m 13 ls []) := by
    intro n
    induction n with
    | zero =>
      intro x3 sMo H locs ls hf
      exact absurd (show none = some res from hf) (fun h => nomatch h)
    | succ n ih =>
      intro x3 sMo H locs ls hf hP hD hS hl
      rw [f_X11_endWay_13] at hf
      refine lv_iload_n hx hb dX11_endWay_13 rfl (lv_at hl 3 rfl) ?_
      refine lv_bipush (v := (9 : Int32)) hx hb dX11_endWay_14 (by decide) ?_
      refine lv_icmp_ge (tgt := 46) hx hb dX11_endWay_16 (by decide) (fun c2 => ?_) (fun c2 => ?_)
      · have hf := it_t hf c2
        exact w46 sMo H locs ls hf hP hD hS (lv_sub hl [0, 2] rfl)
      · have hf := it_f hf c2
        refine lv_aload_n hx hb dX11_endWay_19 rfl (lv_at hl 0 rfl) ?_
        refine va_get (D := D) (ci := 10) (v := .ref (hMo 34)) (C := RX11) (T := TX11) (N := 41) hx hb hts iX11 hown hK hP 0 o_Mo rfl 34 (by decide) (htl _ (mB6 _ (List.mem_of_getElem? (i := 17) rfl))) (fun _ h9 => h9) rfl dX11_endWay_20 ?_
        refine lv_iload_n hx hb dX11_endWay_23 rfl (lv_at hl 3 rfl) ?_
        refine lv_iload_n hx hb dX11_endWay_24 rfl (lv_at hl 3 rfl) ?_
        refine lv_iload_n hx hb dX11_endWay_25 rfl (lv_at hl 1 rfl) ?_
        refine lv_icmp_ge (tgt := 38) hx hb dX11_endWay_26 (by decide) (fun c3 => ?_) (fun c3 => ?_)
        · have hf := it_t hf c3
          refine lv_iconst (v := (-1 : Int32)) hx hb dX11_endWay_38 (by decide) ?_
          exact w39 (f_X11_endWay_13 F p1 p2 n) ih x3 x3 (-1 : Int32) sMo H locs ls hf hP hD hS (lv_sub hl [0, 1, 2, 3] rfl)
        · have hf := it_f hf c3
          refine lv_aload_n hx hb dX11_endWay_29 rfl (lv_at hl 0 rfl) ?_
          refine va_get (D := D) (ci := 10) (v := .ref (hMo 33)) (C := RX11) (T := TX11) (N := 41) hx hb hts iX11 hown hK hP 0 o_Mo rfl 33 (by decide) (htl _ (mB6 _ (List.mem_of_getElem? (i := 16) rfl))) (fun _ h9 => h9) rfl dX11_endWay_30 ?_
          refine lv_iload_n hx hb dX11_endWay_33 rfl (lv_at hl 3 rfl) ?_
          obtain ⟨g4, hf⟩ := gd_s hf
          refine va_iald hx hb hK hP 16 0 (f := sMo.2.2.1 33) a_Mo_33 rfl (vpb_in g4) dX11_endWay_34 ?_
          refine lv_topi (fun v5 ev5 => ?_)
          have hf := lz_s hf v5 ev5
          refine lv_goto (tgt := 39) hx hb dX11_endWay_35 (by decide) ?_
          exact w39 (f_X11_endWay_13 F p1 p2 n) ih x3 x3 v5 sMo H locs ls hf hP hD hS (lv_sub hl [0, 1, 2, 3] rfl)
  have hen : entryFrame m args 4 = entryFrame m (([.ref (hMo 99), .int p1, .int p2] : List Value).toArray) 4 := by rw [hargs]
  have hl := lv_entry ([.ref (hMo 99), .int p1, .int p2]) (n := 4) (Nat.le_of_ble_eq_true rfl)
  rw [hen, lg_entry_eq]
  generalize (lg_sl ([.ref (hMo 99), .int p1, .int p2]) ++ List.replicate (4 - (lg_sl ([.ref (hMo 99), .int p1, .int p2])).length) Slot.unset).toArray = ls at hl ⊢
  have hl : lv_has ls 4 [(0, .ref (hMo 99)), (1, .int p1), (2, .int p2)] := hl
  unfold f_X11_endWay at hf
  obtain ⟨H, hHe⟩ : ∃ z, z = s.heap := ⟨_, rfl⟩
  obtain ⟨locs, hLe⟩ : ∃ z : List Loc, z = [] := ⟨_, rfl⟩
  rw [← hLe]
  have hS : va_S A s.heap H locs := by rw [hHe, hLe]; exact hS
  have hP : va_P D vwCl (wMo K hMo sMo) H := by rw [hHe]; exact hP
  have hgo : W p l e (headSpec wz_X11_endWay r_X11_endWay).room s m args below meth c H locs 0 0 Q (F0 m 0 ls []) := by
    refine lv_aload_n hx hb dX11_endWay_0 rfl (lv_at hl 0 rfl) ?_
    refine va_get (D := D) (ci := 10) (v := .int (sMo.1 36)) (C := RX11) (T := TX11) (N := 41) hx hb hts iX11 hown hK hP 0 o_Mo rfl 36 (by decide) (htl _ (mB57 _ (List.mem_of_getElem? (i := 4) rfl))) (fun _ h9 => h9) rfl dX11_endWay_1 ?_
    refine lv_aload_n hx hb dX11_endWay_4 rfl (lv_at hl 0 rfl) ?_
    refine va_get (D := D) (ci := 10) (v := .int (sMo.1 35)) (C := RX11) (T := TX11) (N := 41) hx hb hts iX11 hown hK hP 0 o_Mo rfl 35 (by decide) (htl _ (mB57 _ (List.mem_of_getElem? (i := 10) rfl))) (fun _ h9 => h9) rfl dX11_endWay_5 ?_
    refine lv_icmp_ne (tgt := 46) hx hb dX11_endWay_8 (by decide) (fun c1 => ?_) (fun c1 => ?_)
    · have hf := it_f hf c1
      exact w46 sMo H locs ls hf hP hD hS (lv_sub hl [0, 2] rfl)
    · have hf := it_t hf c1
      refine lv_iconst (v := (0 : Int32)) hx hb dX11_endWay_11 (by decide) ?_
      refine lv_istore_n (lv' := [(3, .int (0 : Int32)), (0, .ref (hMo 99)), (1, .int p1), (2, .int p2)]) hx hb dX11_endWay_12 rfl hl (by decide) rfl (fun ls hl => ?_)
      exact w13 F (0 : Int32) sMo H locs ls hf hP hD hS (lv_sub hl [1, 2, 3, 0] rfl)
  rw [hHe] at hgo
  exact hgo

theorem gcV_X11_endWay {T0 : Cond} {own : String} {i : Nat} (h : Cond.methodLink own i yX11_endWay ∈ wsL_law) : GoodIn (T0 :: wsL_law) (wsV own i RX11 yX11_endWay wz_X11_endWay) := gV h (mB57 _ (List.mem_of_getElem? (i := 22) rfl)) (mB57 _ (List.mem_of_getElem? (i := 23) rfl)) (mB1 _ (List.mem_of_getElem? (i := 5) rfl)) (mB58 _ (List.mem_of_getElem? (i := 0) rfl))
theorem hdV_X11_endWay : yX11_endWay.cls = RX11 ∧ yX11_endWay.cls ≠ "java/lang/invoke/MethodHandle" ∧ yX11_endWay.cls ≠ "java/lang/invoke/VarHandle" ∧ (parseMethodDescriptor yX11_endWay.desc).map (fun d => d.parameters.length) = some 2 := by decide +kernel
theorem gcS_X11_hasBit {T0 : Cond} {own : String} {i : Nat} (h : Cond.methodLink own i yX11_hasBit ∈ wsL_law) : GoodIn (T0 :: wsL_law) (va_wsS own i yX11_hasBit wz_X11_hasBit) := gS h (mB58 _ (List.mem_of_getElem? (i := 2) rfl)) (mB1 _ (List.mem_of_getElem? (i := 5) rfl)) (mB58 _ (List.mem_of_getElem? (i := 3) rfl))
theorem hdS_X11_hasBit : yX11_hasBit.cls ≠ "java/lang/invoke/MethodHandle" ∧ yX11_hasBit.cls ≠ "java/lang/invoke/VarHandle" ∧ (parseMethodDescriptor yX11_hasBit.desc).map (fun d => d.parameters.length) = some 2 := by decide +kernel
def wz_X11_wayFrom : List Cond := .code yX11_wayFrom cX11_wayFrom 4 none :: wsL_law
abbrev r_X11_wayFrom : Nat → Room := fun d => { frames := d + 22, cells := 0, slots := 0, locals := d * 23 + 589 }
theorem gcV_X11_wayFrom {T0 : Cond} {own : String} {i : Nat} (h : Cond.methodLink own i yX11_wayFrom ∈ wsL_law) : GoodIn (T0 :: wsL_law) (wsV own i RX11 yX11_wayFrom wz_X11_wayFrom) := gV h (mB57 _ (List.mem_of_getElem? (i := 14) rfl)) (mB57 _ (List.mem_of_getElem? (i := 15) rfl)) (mB1 _ (List.mem_of_getElem? (i := 5) rfl)) (mB57 _ (List.mem_of_getElem? (i := 16) rfl))
theorem hdV_X11_wayFrom : yX11_wayFrom.cls = RX11 ∧ yX11_wayFrom.cls ≠ "java/lang/invoke/MethodHandle" ∧ yX11_wayFrom.cls ≠ "java/lang/invoke/VarHandle" ∧ (parseMethodDescriptor yX11_wayFrom.desc).map (fun d => d.parameters.length) = some 2 := by decide +kernel
set_option maxHeartbeats 4000000 in
set_option maxRecDepth 100000 in
theorem cs_X11_wayFrom (l : Launch) (D : va_G) (K : Nat → ClassId) (F : Nat) (hMo : Nat → Nat) (d : Nat) (rc : Int32 → Int32 → MS → Option MS) (ih0 : ∀ (sz : Nat) (sMo : MS) (p1 : Int32) (p2 : Int32) (res : MS), rc p1 p2 sMo = some res → Met l yX11_wayFrom wz_X11_wayFrom (r_X11_wayFrom d) (va_Pc [.ref (hMo 99), .int p1, .int p2] (PW D K (wMo K hMo sMo) sz)) (va_Qv (fun u => u = res) (fun u t => BW D K (va_A (wMo K hMo sMo) sz) (wMo K hMo u) t) (va_A (wMo K hMo sMo) sz)) 0 0 (va_A (wMo K hMo sMo) sz)) (sz : Nat) (sMo : MS) (p1 : Int32) (p2 : Int32) (res : MS) (hf : f_X11_wayFrom_b F p1 p2 rc sMo = some res) : Met l yX11_wayFrom wz_X11_wayFrom (r_X11_wayFrom (d + 1)) (va_Pc [.ref (hMo 99), .int p1, .int p2] (PW D K (wMo K hMo sMo) sz)) (va_Qv (fun u => u = res) (fun u t => BW D K (va_A (wMo K hMo sMo) sz) (wMo K hMo u) t) (va_A (wMo K hMo sMo) sz)) 0 0 (va_A (wMo K hMo sMo) sz) := by
  refine Met.ofW (cc := cX11_wayFrom) (maxL := 4) (ret := none) (by decide) rfl ?_
  intro p e s m args below meth c s₁ B hml hv
  obtain ⟨hargs, hsz, hP, hK, hD0⟩ := hv
  have hx := B.exec
  have hb := B.bytes
  have hr := B.returns
  have hts := atoms_spec (ws := wz_X11_wayFrom) B.pre
  have htl : ∀ w ∈ wsL_law, w.before args s = true := fun w h => hts w (List.mem_cons_of_mem _ h)
  have hown : s.vm.findClass RX11 = some m.cls := findClass_of_methodNamed B.named
  have hlocks := B.notSynchronized
  subst hsz
  have hD := hD0.self (sz := s.heap.size)
  generalize hAe : va_A (wMo K hMo sMo) s.heap.size = A at hD ⊢
  have hA : ∀ q : Nat, s.heap.size ≤ q → A q := fun q h => by rw [← hAe]; exact Or.inr h
  have hS : va_S A s.heap s.heap [] := va_S.rf
  have iX11 : ∀ w ∈ wsX110, w ∈ wz_X11_wayFrom := fun w h => List.mem_cons_of_mem _ (inlX11 w h)
  suffices hgo : ∀ Q : State → Prop, Q = MQ below (va_Qv (fun u => u = res) (fun u t => BW D K A (wMo K hMo u) t) A) args s 0 0 A → W p l e (headSpec wz_X11_wayFrom (r_X11_wayFrom (d + 1))).room s m args below meth c s.heap [] 0 0 Q (entryFrame m args 4) from hgo _ rfl
  intro Q hQ
  have w98 : ∀ (k42 : Int32 → MS → Option MS), (∀ (x3 : Int32), ∀ (sMo : MS), ∀ (H : Heap) (locs : List Loc) (ls : Array Slot), k42 x3 sMo = some res → va_P D vwCl (wMo K hMo sMo) H → va_D A (wMo K hMo sMo) → va_S A s.heap H locs → lv_has ls 4 [(0, .ref (hMo 99)), (1, .int p1), (2, .int p2), (3, .int x3)] → W p l e (headSpec wz_X11_wayFrom (r_X11_wayFrom (d + 1))).room s m args below meth c H locs 0 0 Q (F0 m 42 ls [])) → ∀ (x3 : Int32), ∀ (sMo : MS), ∀ (H : Heap) (locs : List Loc) (ls : Array Slot), f_X11_wayFrom_98 F p1 p2 rc k42 x3 sMo = some res → va_P D vwCl (wMo K hMo sMo) H → va_D A (wMo K hMo sMo) → va_S A s.heap H locs → lv_has ls 4 [(0, .ref (hMo 99)), (1, .int p1), (2, .int p2), (3, .int x3)] → W p l e (headSpec wz_X11_wayFrom (r_X11_wayFrom (d + 1))).room s m args below meth c H locs 0 0 Q (F0 m 98 ls []) := by
    intro k42 hk42 x3 sMo H locs ls hf hP hD hS hl
    unfold f_X11_wayFrom_98 at hf
    obtain ⟨v21, ev21⟩ : ∃ z : Int32, z = x3 + (1 : Int32) := ⟨_, rfl⟩
    have hf := lz_s hf v21 ev21
    refine lv_iinc (v := v21) (lv' := [(3, .int v21), (0, .ref (hMo 99)), (1, .int p1), (2, .int p2)]) hx hb dX11_wayFrom_98 hl (k := 3) rfl (by rw [ev21]; rfl) (by decide) rfl (fun ls hl => ?_)
    refine lv_goto (tgt := 42) hx hb dX11_wayFrom_101 (by decide) ?_
    exact hk42 v21 sMo H locs ls hf hP hD hS (lv_sub hl [1, 2, 3, 0] rfl)
  have w42 : ∀ (n : Nat), ∀ (x3 : Int32), ∀ (sMo : MS), ∀ (H : Heap) (locs : List Loc) (ls : Array Slot), f_X11_wayFrom_42 F p1 p2 rc n x3 sMo = some res → va_P D vwCl (wMo K hMo sMo) H → va_D A (wMo K hMo sMo) → va_S A s.heap H locs → lv_has ls 4 [(0, .ref (hMo 99)), (1, .int p1), (2, .int p2), (3, .int x3)] → W p l e (headSpec wz_X11_wayFrom (r_X11_wayFrom (d + 1))).room s m args below meth c H locs 0 0 Q (F0 m 42 ls []) := by
    intro n
    induction n with
    | zero =>
      intro x3 sMo H locs ls hf
      exact absurd (show none = some res from hf) (fun h => nomatch h)
    | succ n ih =>
      intro x3 sMo H locs ls hf hP hD hS hl
      rw [f_X11_wayFrom_42] at hf
      refine lv_iload_n hx hb dX11_wayFrom_42 rfl (lv_at hl 3 rfl) ?_
      refine lv_aload_n hx hb dX11_wayFrom_43 rfl (lv_at hl 0 rfl) ?_
      refine va_get (D := D) (ci := 10) (v := .ref (hMo 15)) (C := RX11) (T := TX11) (N := 41) hx hb hts iX11 hown hK hP 0 o_Mo rfl 15 (by decide) (htl _ (mB6 _ (List.mem_of_getElem? (i := 3) rfl))) (fun _ h9 => h9) rfl dX11_wayFrom_44 ?_
      refine lv_iconst (v := (5 : Int32)) hx hb dX11_wayFrom_47 (by decide) ?_
      obtain ⟨g9, hf⟩ := gd_s hf
      refine va_iald hx hb hK hP 3 0 (f := sMo.2.2.1 15) a_Mo_15 rfl (vpb_in g9) dX11_wayFrom_48 ?_
      refine lv_topi (fun v10 ev10 => ?_)
      have hf := lz_s hf v10 ev10
      refine lv_icmp_ge (tgt := 104) hx hb dX11_wayFrom_49 (by decide) (fun c11 => ?_) (fun c11 => ?_)
      · have hf := it_t hf c11
        have e9 := Option.some.inj hf
        rw [hQ]
        exact W.vret hx hb hr (fun t ht hW => ⟨⟨sMo, rfl, e9, ⟨by rw [ht]; exact hP, va_K.moved hW.alike hK, hD⟩⟩, hS.F ht⟩) hS.2.2 dX11_wayFrom_104
      · have hf := it_f hf c11
        refine lv_iload_n hx hb dX11_wayFrom_52 rfl (lv_at hl 2 rfl) ?_
        refine lv_iload_n hx hb dX11_wayFrom_53 rfl (lv_at hl 3 rfl) ?_
        obtain ⟨o12, go12, hf⟩ := bd_s hf
        refine ro_Si (As := [.int p2, .int x3]) (rest := []) ⟨hx, hb, hml, hown, hts⟩ (c_X11_hasBit l D K F p2 x3 o12 go12) (va_cwS 2 hts (gcS_X11_hasBit (mB58 _ (List.mem_of_getElem? (i := 1) rfl))) rfl rfl rfl hdS_X11_hasBit ⟨Nat.le_trans (Nat.le_of_ble_eq_true rfl) (Nat.le_add_left 22 (d + 1)), Nat.le_trans (Nat.le_of_ble_eq_true rfl) (Nat.le_add_left 589 ((d + 1) * 23))⟩) hK hP hS va_Pnil rfl hl.1 rfl (Nat.le_of_ble_eq_true rfl) dX11_wayFrom_54 ⟨Nat.zero_le _, Nat.zero_le _⟩ (fun H locs hP hS => ?_)
        refine lv_if_ne (tgt := 98) hx hb dX11_wayFrom_57 (by decide) (fun c13 => ?_) (fun c13 => ?_)
        · have hf := it_f hf c13
          exact w98 (f_X11_wayFrom_42 F p1 p2 rc n) ih x3 sMo H locs ls hf hP hD hS (lv_sub hl [0, 1, 2, 3] rfl)
        · have hf := it_t hf c13
          refine lv_aload_n hx hb dX11_wayFrom_60 rfl (lv_at hl 0 rfl) ?_
          refine lv_aload_n hx hb dX11_wayFrom_61 rfl (lv_at hl 0 rfl) ?_
          refine va_get (D := D) (ci := 10) (v := .ref (hMo 33)) (C := RX11) (T := TX11) (N := 41) hx hb hts iX11 hown hK hP 0 o_Mo rfl 33 (by decide) (htl _ (mB6 _ (List.mem_of_getElem? (i := 16) rfl))) (fun _ h9 => h9) rfl dX11_wayFrom_62 ?_
          refine lv_iload_n hx hb dX11_wayFrom_65 rfl (lv_at hl 1 rfl) ?_
          refine lv_iconst (v := (1 : Int32)) hx hb dX11_wayFrom_66 (by decide) ?_
          refine lv_isub hx hb dX11_wayFrom_67 ?_
          obtain ⟨g14, hf⟩ := gd_s hf
          refine va_iald hx hb hK hP 16 0 (f := sMo.2.2.1 33) a_Mo_33 rfl (vpb_in g14) dX11_wayFrom_68 ?_
          refine lv_topi (fun v15 ev15 => ?_)
          have hf := lz_s hf v15 ev15
          refine lv_iload_n hx hb dX11_wayFrom_69 rfl (lv_at hl 3 rfl) ?_
          obtain ⟨o16, go16, hf⟩ := bd_s hf
          refine ro_Vi (As := [.int v15, .int x3]) (rest := []) ⟨hx, hb, hml, hown, hts⟩ (c_X11_roadOf l D K F hMo sMo v15 x3 o16 go16) (cwV 2 hts (gcV_X11_roadOf (mB25 _ (List.mem_of_getElem? (i := 11) rfl))) rfl rfl rfl hdV_X11_roadOf ⟨Nat.le_trans (Nat.le_of_ble_eq_true rfl) (Nat.le_add_left 22 (d + 1)), Nat.le_trans (Nat.le_of_ble_eq_true rfl) (Nat.le_add_left 589 ((d + 1) * 23))⟩) hK hP hS hP (va_recv hK hP (ci := 10) (q0 := 0) rfl o_Mo) rfl hl.1 rfl (Nat.le_of_ble_eq_true rfl) dX11_wayFrom_70 ⟨Nat.zero_le _, Nat.zero_le _⟩ (fun H locs hP hS => ?_)
          refine lv_if_ne (tgt := 79) hx hb dX11_wayFrom_73 (by decide) (fun c17 => ?_) (fun c17 => ?_)
          · have hf := it_f hf c17
            refine lv_aload_n hx hb dX11_wayFrom_79 rfl (lv_at hl 0 rfl) ?_
            refine va_get (D := D) (ci := 10) (v := .ref (hMo 33)) (C := RX11) (T := TX11) (N := 41) hx hb hts iX11 hown hK hP 0 o_Mo rfl 33 (by decide) (htl _ (mB6 _ (List.mem_of_getElem? (i := 16) rfl))) (fun _ h9 => h9) rfl dX11_wayFrom_80 ?_
            refine lv_iload_n hx hb dX11_wayFrom_83 rfl (lv_at hl 1 rfl) ?_
            refine lv_iload_n hx hb dX11_wayFrom_84 rfl (lv_at hl 3 rfl) ?_
            obtain ⟨g18, hf⟩ := gd_s hf
            refine va_iast hx hb hK hP hD hS 16 0 (f := sMo.2.2.1 33) a_Mo_33 rfl (vpb_in g18) dX11_wayFrom_85 (fun H locs hP hD hS => ?_)
            have hP := cvP sa_Mo_33 hP
            have hD := cvD sa_Mo_33 hD
            obtain ⟨s19, es19⟩ : ∃ z, z = sA sMo 33 p1.toNatClampNeg x3 := ⟨_, rfl⟩
            have hP : va_P D vwCl (wMo K hMo s19) H := by rw [es19]; exact hP
            have hD : va_D A (wMo K hMo s19) := by rw [es19]; exact hD
            have hf := lz_s hf s19 es19
            refine lv_aload_n hx hb dX11_wayFrom_86 rfl (lv_at hl 0 rfl) ?_
            refine lv_iload_n hx hb dX11_wayFrom_87 rfl (lv_at hl 1 rfl) ?_
            refine lv_iconst (v := (1 : Int32)) hx hb dX11_wayFrom_88 (by decide) ?_
            refine lv_iadd hx hb dX11_wayFrom_89 ?_
            refine lv_iload_n hx hb dX11_wayFrom_90 rfl (lv_at hl 2 rfl) ?_
            refine lv_iconst (v := (1 : Int32)) hx hb dX11_wayFrom_91 (by decide) ?_
            refine lv_iload_n hx hb dX11_wayFrom_92 rfl (lv_at hl 3 rfl) ?_
            refine lv_ishl hx hb dX11_wayFrom_93 ?_
            refine lv_ior hx hb dX11_wayFrom_94 ?_
            obtain ⟨o20, go20, hf⟩ := bd_s hf
            refine rs_Vv (As := [.int (p1 + (1 : Int32)), .int (p2 ||| ((1 : Int32) <<< (x3 &&& 31)))]) (rest := []) ⟨hx, hb, hml, hown, hts⟩ (ih0 H.size s19 (p1 + (1 : Int32)) (p2 ||| ((1 : Int32) <<< (x3 &&& 31))) o20 go20) (cwV 2 hts (gV (mB57 _ (List.mem_of_getElem? (i := 13) rfl)) (mB57 _ (List.mem_of_getElem? (i := 14) rfl)) (mB57 _ (List.mem_of_getElem? (i := 15) rfl)) (mB1 _ (List.mem_of_getElem? (i := 5) rfl)) (mB57 _ (List.mem_of_getElem? (i := 16) rfl))) rfl rfl rfl hdV_X11_wayFrom ⟨by show d + 22 + 1 ≤ d + 1 + 22; omega, by show 8 + (4 + 11) + (d * 23 + 589) ≤ (d + 1) * 23 + 589; omega⟩) hK hP hD hS hA (va_recv hK hP (ci := 10) (q0 := 0) rfl o_Mo) rfl hl.1 rfl (Nat.le_of_ble_eq_true rfl) dX11_wayFrom_95 ⟨Nat.zero_le _, Nat.zero_le _⟩ (fun H locs hP hD hS => ?_)
            have hP : va_P D vwCl (wMo K hMo o20) H := hP
            have hD : va_D A (wMo K hMo o20) := hD
            exact w98 (f_X11_wayFrom_42 F p1 p2 rc n) ih x3 o20 H locs ls hf hP hD hS (lv_sub hl [0, 1, 2, 3] rfl)
          · have hf := it_t hf c17
            refine lv_goto (tgt := 98) hx hb dX11_wayFrom_76 (by decide) ?_
            exact w98 (f_X11_wayFrom_42 F p1 p2 rc n) ih x3 sMo H locs ls hf hP hD hS (lv_sub hl [0, 1, 2, 3] rfl)
  have hen : entryFrame m args 4 = entryFrame m (([.ref (hMo 99), .int p1, .int p2] : List Value).toArray) 4 := by rw [hargs]
  have hl := lv_entry ([.ref (hMo 99), .int p1, .int p2]) (n := 4) (Nat.le_of_ble_eq_true rfl)
  rw [hen, lg_entry_eq]
  generalize (lg_sl ([.ref (hMo 99), .int p1, .int p2]) ++ List.replicate (4 - (lg_sl ([.ref (hMo 99), .int p1, .int p2])).length) Slot.unset).toArray = ls at hl ⊢
  have hl : lv_has ls 4 [(0, .ref (hMo 99)), (1, .int p1), (2, .int p2)] := hl
  unfold f_X11_wayFrom_b at hf
  obtain ⟨H, hHe⟩ : ∃ z, z = s.heap := ⟨_, rfl⟩
  obtain ⟨locs, hLe⟩ : ∃ z : List Loc, z = [] := ⟨_, rfl⟩
  rw [← hLe]
  have hS : va_S A s.heap H locs := by rw [hHe, hLe]; exact hS
  have hP : va_P D vwCl (wMo K hMo sMo) H := by rw [hHe]; exact hP
  have hgo : W p l e (headSpec wz_X11_wayFrom (r_X11_wayFrom (d + 1))).room s m args below meth c H locs 0 0 Q (F0 m 0 ls []) := by
    refine lv_aload_n hx hb dX11_wayFrom_0 rfl (lv_at hl 0 rfl) ?_
    refine va_get (D := D) (ci := 10) (v := .ref (hMo 33)) (C := RX11) (T := TX11) (N := 41) hx hb hts iX11 hown hK hP 0 o_Mo rfl 33 (by decide) (htl _ (mB6 _ (List.mem_of_getElem? (i := 16) rfl))) (fun _ h9 => h9) rfl dX11_wayFrom_1 ?_
    refine lv_iload_n hx hb dX11_wayFrom_4 rfl (lv_at hl 1 rfl) ?_
    refine lv_iconst (v := (1 : Int32)) hx hb dX11_wayFrom_5 (by decide) ?_
    refine lv_isub hx hb dX11_wayFrom_6 ?_
    obtain ⟨g1, hf⟩ := gd_s hf
    refine va_iald hx hb hK hP 16 0 (f := sMo.2.2.1 33) a_Mo_33 rfl (vpb_in g1) dX11_wayFrom_7 ?_
    refine lv_topi (fun v2 ev2 => ?_)
    have hf := lz_s hf v2 ev2
    refine lv_aload_n hx hb dX11_wayFrom_8 rfl (lv_at hl 0 rfl) ?_
    refine lv_aload_n hx hb dX11_wayFrom_9 rfl (lv_at hl 0 rfl) ?_
    obtain ⟨o3, go3, hf⟩ := bd_s hf
    refine ro_Vi (As := []) (rest := [.ref (hMo 99), .int v2]) ⟨hx, hb, hml, hown, hts⟩ (c_X11_lastStation l D K F hMo sMo o3 go3) (cwV 0 hts (gcV_X11_lastStation (mB28 _ (List.mem_of_getElem? (i := 11) rfl))) rfl rfl rfl hdV_X11_lastStation ⟨Nat.le_trans (Nat.le_of_ble_eq_true rfl) (Nat.le_add_left 22 (d + 1)), Nat.le_trans (Nat.le_of_ble_eq_true rfl) (Nat.le_add_left 589 ((d + 1) * 23))⟩) hK hP hS hP (va_recv hK hP (ci := 10) (q0 := 0) rfl o_Mo) rfl hl.1 rfl (Nat.le_of_ble_eq_true rfl) dX11_wayFrom_10 ⟨Nat.zero_le _, Nat.zero_le _⟩ (fun H locs hP hS => ?_)
    obtain ⟨o4, go4, hf⟩ := bd_s hf
    refine ro_Vi (As := [.int o3]) (rest := [.int v2]) ⟨hx, hb, hml, hown, hts⟩ (c_X11_placeOf l D K F hMo sMo o3 o4 go4) (cwV 1 hts (gcV_X11_placeOf (mB26 _ (List.mem_of_getElem? (i := 19) rfl))) rfl rfl rfl hdV_X11_placeOf ⟨Nat.le_trans (Nat.le_of_ble_eq_true rfl) (Nat.le_add_left 22 (d + 1)), Nat.le_trans (Nat.le_of_ble_eq_true rfl) (Nat.le_add_left 589 ((d + 1) * 23))⟩) hK hP hS hP (va_recv hK hP (ci := 10) (q0 := 0) rfl o_Mo) rfl hl.1 rfl (Nat.le_of_ble_eq_true rfl) dX11_wayFrom_13 ⟨Nat.zero_le _, Nat.zero_le _⟩ (fun H locs hP hS => ?_)
    refine lv_icmp_ne (tgt := 40) hx hb dX11_wayFrom_16 (by decide) (fun c5 => ?_) (fun c5 => ?_)
    · have hf := it_f hf c5
      refine lv_iconst (v := (0 : Int32)) hx hb dX11_wayFrom_40 (by decide) ?_
      refine lv_istore_n (lv' := [(3, .int (0 : Int32)), (0, .ref (hMo 99)), (1, .int p1), (2, .int p2)]) hx hb dX11_wayFrom_41 rfl hl (by decide) rfl (fun ls hl => ?_)
      exact w42 F (0 : Int32) sMo H locs ls hf hP hD hS (lv_sub hl [1, 2, 3, 0] rfl)
    · have hf := it_t hf c5
      refine lv_aload_n hx hb dX11_wayFrom_19 rfl (lv_at hl 0 rfl) ?_
      refine lv_iload_n hx hb dX11_wayFrom_20 rfl (lv_at hl 1 rfl) ?_
      refine lv_iconst (v := (0 : Int32)) hx hb dX11_wayFrom_21 (by decide) ?_
      refine lv_iconst (v := (0 : Int32)) hx hb dX11_wayFrom_22 (by decide) ?_
      refine lv_aload_n hx hb dX11_wayFrom_23 rfl (lv_at hl 0 rfl) ?_
      refine va_get (D := D) (ci := 10) (v := .int (sMo.1 39)) (C := RX11) (T := TX11) (N := 41) hx hb hts iX11 hown hK hP 0 o_Mo rfl 39 (by decide) (htl _ (mB57 _ (List.mem_of_getElem? (i := 9) rfl))) (fun _ h9 => h9) rfl dX11_wayFrom_24 ?_
      obtain ⟨o6, go6, hf⟩ := bd_s hf
      refine ro_Vi (As := [.int p1, .int (0 : Int32), .int (0 : Int32), .int (sMo.1 39)]) (rest := []) ⟨hx, hb, hml, hown, hts⟩ (c_X11_doesFit l D K F hMo sMo 20 p1 (0 : Int32) (0 : Int32) (sMo.1 39) o6 go6) (cwV 4 hts (gcV_X11_doesFit (mB57 _ (List.mem_of_getElem? (i := 17) rfl))) rfl rfl rfl hdV_X11_doesFit ⟨Nat.le_trans (Nat.le_of_ble_eq_true rfl) (Nat.le_add_left 22 (d + 1)), Nat.le_trans (Nat.le_of_ble_eq_true rfl) (Nat.le_add_left 589 ((d + 1) * 23))⟩) hK hP hS hP (va_recv hK hP (ci := 10) (q0 := 0) rfl o_Mo) rfl hl.1 rfl (Nat.le_of_ble_eq_true rfl) dX11_wayFrom_27 ⟨Nat.zero_le _, Nat.zero_le _⟩ (fun H locs hP hS => ?_)
      refine lv_if_eq (tgt := 39) hx hb dX11_wayFrom_30 (by decide) (fun c7 => ?_) (fun c7 => ?_)
      · have hf := it_t hf c7
        have e9 := Option.some.inj hf
        rw [hQ]
        exact W.vret hx hb hr (fun t ht hW => ⟨⟨sMo, rfl, e9, ⟨by rw [ht]; exact hP, va_K.moved hW.alike hK, hD⟩⟩, hS.F ht⟩) hS.2.2 dX11_wayFrom_39
      · have hf := it_f hf c7
        refine lv_aload_n hx hb dX11_wayFrom_33 rfl (lv_at hl 0 rfl) ?_
        refine lv_iload_n hx hb dX11_wayFrom_34 rfl (lv_at hl 1 rfl) ?_
        refine lv_iload_n hx hb dX11_wayFrom_35 rfl (lv_at hl 2 rfl) ?_
        obtain ⟨o8, go8, hf⟩ := bd_s hf
        refine rs_Vv (As := [.int p1, .int p2]) (rest := []) ⟨hx, hb, hml, hown, hts⟩ (c_X11_endWay l D K F hMo H.size sMo p1 p2 o8 go8) (cwV 2 hts (gcV_X11_endWay (mB57 _ (List.mem_of_getElem? (i := 21) rfl))) rfl rfl rfl hdV_X11_endWay ⟨Nat.le_trans (Nat.le_of_ble_eq_true rfl) (Nat.le_add_left 22 (d + 1)), Nat.le_trans (Nat.le_of_ble_eq_true rfl) (Nat.le_add_left 589 ((d + 1) * 23))⟩) hK hP hD hS hA (va_recv hK hP (ci := 10) (q0 := 0) rfl o_Mo) rfl hl.1 rfl (Nat.le_of_ble_eq_true rfl) dX11_wayFrom_36 ⟨Nat.zero_le _, Nat.zero_le _⟩ (fun H locs hP hD hS => ?_)
        have hP : va_P D vwCl (wMo K hMo o8) H := hP
        have hD : va_D A (wMo K hMo o8) := hD
        have e9 := Option.some.inj hf
        rw [hQ]
        exact W.vret hx hb hr (fun t ht hW => ⟨⟨o8, rfl, e9, ⟨by rw [ht]; exact hP, va_K.moved hW.alike hK, hD⟩⟩, hS.F ht⟩) hS.2.2 dX11_wayFrom_39
  rw [hHe] at hgo
  exact hgo
theorem c_X11_wayFrom (l : Launch) (D : va_G) (K : Nat → ClassId) (F : Nat) (hMo : Nat → Nat) : ∀ (d : Nat) (sz : Nat) (sMo : MS) (p1 : Int32) (p2 : Int32) (res : MS), f_X11_wayFrom F d p1 p2 sMo = some res → Met l yX11_wayFrom wz_X11_wayFrom (r_X11_wayFrom d) (va_Pc [.ref (hMo 99), .int p1, .int p2] (PW D K (wMo K hMo sMo) sz)) (va_Qv (fun u => u = res) (fun u t => BW D K (va_A (wMo K hMo sMo) sz) (wMo K hMo u) t) (va_A (wMo K hMo sMo) sz)) 0 0 (va_A (wMo K hMo sMo) sz) := by
  intro d
  induction d with
  | zero =>
    intro sz sMo p1 p2 res hf
    exact absurd (show none = some res from hf) (fun h => nomatch h)
  | succ d ih =>
    intro sz sMo p1 p2 res hf
    rw [f_X11_wayFrom] at hf
    exact cs_X11_wayFrom l D K F hMo d _ ih sz sMo p1 p2 res hf

def wz_X11_seekWays : List Cond := .code yX11_seekWays cX11_seekWays 3 none :: wsL_law
abbrev r_X11_seekWays : Room := { frames := 43, cells := 0, slots := 0, locals := 1072 }
set_option maxHeartbeats 4000000 in
set_option maxRecDepth 100000 in
theorem c_X11_seekWays (l : Launch) (D : va_G) (K : Nat → ClassId) (F : Nat) (hMo : Nat → Nat) (sz : Nat) (sMo : MS) (p1 : Int32) (p2 : Int32) (res : MS) (hf : f_X11_seekWays F p1 p2 sMo = some res) : Met l yX11_seekWays wz_X11_seekWays r_X11_seekWays (va_Pc [.ref (hMo 99), .int p1, .int p2] (PW D K (wMo K hMo sMo) sz)) (va_Qv (fun u => u = res) (fun u t => BW D K (va_A (wMo K hMo sMo) sz) (wMo K hMo u) t) (va_A (wMo K hMo sMo) sz)) 0 0 (va_A (wMo K hMo sMo) sz) := by
  refine Met.ofW (cc := cX11_seekWays) (maxL := 3) (ret := none) (by decide) rfl ?_
  intro p e s m args below meth c s₁ B hml hv
  obtain ⟨hargs, hsz, hP, hK, hD0⟩ := hv
  have hx := B.exec
  have hb := B.bytes
  have hr := B.returns
  have hts := atoms_spec (ws := wz_X11_seekWays) B.pre
  have htl : ∀ w ∈ wsL_law, w.before args s = true := fun w h => hts w (List.mem_cons_of_mem _ h)
  have hown : s.vm.findClass RX11 = some m.cls := findClass_of_methodNamed B.named
  have hlocks := B.notSynchronized
  subst hsz
  have hD := hD0.self (sz := s.heap.size)
  generalize hAe : va_A (wMo K hMo sMo) s.heap.size = A at hD ⊢
  have hA : ∀ q : Nat, s.heap.size ≤ q → A q := fun q h => by rw [← hAe]; exact Or.inr h
  have hS : va_S A s.heap s.heap [] := va_S.rf
  have iX11 : ∀ w ∈ wsX110, w ∈ wz_X11_seekWays := fun w h => List.mem_cons_of_mem _ (inlX11 w h)
  suffices hgo : ∀ Q : State → Prop, Q = MQ below (va_Qv (fun u => u = res) (fun u t => BW D K A (wMo K hMo u) t) A) args s 0 0 A → W p l e (headSpec wz_X11_seekWays r_X11_seekWays).room s m args below meth c s.heap [] 0 0 Q (entryFrame m args 3) from hgo _ rfl
  intro Q hQ
  have hen : entryFrame m args 3 = entryFrame m (([.ref (hMo 99), .int p1, .int p2] : List Value).toArray) 3 := by rw [hargs]
  have hl := lv_entry ([.ref (hMo 99), .int p1, .int p2]) (n := 3) (Nat.le_of_ble_eq_true rfl)
  rw [hen, lg_entry_eq]
  generalize (lg_sl ([.ref (hMo 99), .int p1, .int p2]) ++ List.replicate (3 - (lg_sl ([.ref (hMo 99), .int p1, .int p2])).length) Slot.unset).toArray = ls at hl ⊢
  have hl : lv_has ls 3 [(0, .ref (hMo 99)), (1, .int p1), (2, .int p2)] := hl
  unfold f_X11_seekWays at hf
  obtain ⟨H, hHe⟩ : ∃ z, z = s.heap := ⟨_, rfl⟩
  obtain ⟨locs, hLe⟩ : ∃ z : List Loc, z = [] := ⟨_, rfl⟩
  rw [← hLe]
  have hS : va_S A s.heap H locs := by rw [hHe, hLe]; exact hS
  have hP : va_P D vwCl (wMo K hMo sMo) H := by rw [hHe]; exact hP
  have hgo : W p l e (headSpec wz_X11_seekWays r_X11_seekWays).room s m args below meth c H locs 0 0 Q (F0 m 0 ls []) := by
    refine lv_aload_n hx hb dX11_seekWays_0 rfl (lv_at hl 0 rfl) ?_
    refine lv_iload_n hx hb dX11_seekWays_1 rfl (lv_at hl 1 rfl) ?_
    refine va_put (D := D) (ci := 10) (v := .int p1) (ty := .int) (C := RX11) (T := TX11) (N := 41) hx hb hts iX11 tyX11 tyX11_ok nmX11 hown hK hP hD hS 0 o_Mo rfl 39 (by decide) (htl _ (mB57 _ (List.mem_of_getElem? (i := 9) rfl))) (fun _ h9 => h9) rfl (by decide +kernel) rfl rfl (Nat.le_of_ble_eq_true rfl) dX11_seekWays_2 (fun H locs hP hD hS => ?_)
    have hP := cvP si_Mo_39 hP
    have hD := cvD si_Mo_39 hD
    obtain ⟨s1, es1⟩ : ∃ z, z = sI sMo 39 p1 := ⟨_, rfl⟩
    have hP : va_P D vwCl (wMo K hMo s1) H := by rw [es1]; exact hP
    have hD : va_D A (wMo K hMo s1) := by rw [es1]; exact hD
    have hf := lz_s hf s1 es1
    refine lv_aload_n hx hb dX11_seekWays_5 rfl (lv_at hl 0 rfl) ?_
    refine lv_iload_n hx hb dX11_seekWays_6 rfl (lv_at hl 2 rfl) ?_
    refine va_put (D := D) (ci := 10) (v := .int p2) (ty := .int) (C := RX11) (T := TX11) (N := 41) hx hb hts iX11 tyX11 tyX11_ok nmX11 hown hK hP hD hS 0 o_Mo rfl 35 (by decide) (htl _ (mB57 _ (List.mem_of_getElem? (i := 10) rfl))) (fun _ h9 => h9) rfl (by decide +kernel) rfl rfl (Nat.le_of_ble_eq_true rfl) dX11_seekWays_7 (fun H locs hP hD hS => ?_)
    have hP := cvP si_Mo_35 hP
    have hD := cvD si_Mo_35 hD
    obtain ⟨s2, es2⟩ : ∃ z, z = sI s1 35 p2 := ⟨_, rfl⟩
    have hP : va_P D vwCl (wMo K hMo s2) H := by rw [es2]; exact hP
    have hD : va_D A (wMo K hMo s2) := by rw [es2]; exact hD
    have hf := lz_s hf s2 es2
    refine lv_aload_n hx hb dX11_seekWays_10 rfl (lv_at hl 0 rfl) ?_
    refine lv_iconst (v := (0 : Int32)) hx hb dX11_seekWays_11 (by decide) ?_
    refine va_put (D := D) (ci := 10) (v := .int (0 : Int32)) (ty := .int) (C := RX11) (T := TX11) (N := 41) hx hb hts iX11 tyX11 tyX11_ok nmX11 hown hK hP hD hS 0 o_Mo rfl 36 (by decide) (htl _ (mB57 _ (List.mem_of_getElem? (i := 4) rfl))) (fun _ h9 => h9) rfl (by decide +kernel) rfl rfl (Nat.le_of_ble_eq_true rfl) dX11_seekWays_12 (fun H locs hP hD hS => ?_)
    have hP := cvP si_Mo_36 hP
    have hD := cvD si_Mo_36 hD
    obtain ⟨s3, es3⟩ : ∃ z, z = sI s2 36 (0 : Int32) := ⟨_, rfl⟩
    have hP : va_P D vwCl (wMo K hMo s3) H := by rw [es3]; exact hP
    have hD : va_D A (wMo K hMo s3) := by rw [es3]; exact hD
    have hf := lz_s hf s3 es3
    refine lv_aload_n hx hb dX11_seekWays_15 rfl (lv_at hl 0 rfl) ?_
    refine lv_sipush (v := (511 : Int32)) hx hb dX11_seekWays_16 (by decide) ?_
    refine va_put (D := D) (ci := 10) (v := .int (511 : Int32)) (ty := .int) (C := RX11) (T := TX11) (N := 41) hx hb hts iX11 tyX11 tyX11_ok nmX11 hown hK hP hD hS 0 o_Mo rfl 37 (by decide) (htl _ (mB57 _ (List.mem_of_getElem? (i := 11) rfl))) (fun _ h9 => h9) rfl (by decide +kernel) rfl rfl (Nat.le_of_ble_eq_true rfl) dX11_seekWays_19 (fun H locs hP hD hS => ?_)
    have hP := cvP si_Mo_37 hP
    have hD := cvD si_Mo_37 hD
    obtain ⟨s4, es4⟩ : ∃ z, z = sI s3 37 (511 : Int32) := ⟨_, rfl⟩
    have hP : va_P D vwCl (wMo K hMo s4) H := by rw [es4]; exact hP
    have hD : va_D A (wMo K hMo s4) := by rw [es4]; exact hD
    have hf := lz_s hf s4 es4
    refine lv_aload_n hx hb dX11_seekWays_22 rfl (lv_at hl 0 rfl) ?_
    refine lv_iconst (v := (0 : Int32)) hx hb dX11_seekWays_23 (by decide) ?_
    refine va_put (D := D) (ci := 10) (v := .int (0 : Int32)) (ty := .int) (C := RX11) (T := TX11) (N := 41) hx hb hts iX11 tyX11 tyX11_ok nmX11 hown hK hP hD hS 0 o_Mo rfl 38 (by decide) (htl _ (mB57 _ (List.mem_of_getElem? (i := 12) rfl))) (fun _ h9 => h9) rfl (by decide +kernel) rfl rfl (Nat.le_of_ble_eq_true rfl) dX11_seekWays_24 (fun H locs hP hD hS => ?_)
    have hP := cvP si_Mo_38 hP
    have hD := cvD si_Mo_38 hD
    obtain ⟨s5, es5⟩ : ∃ z, z = sI s4 38 (0 : Int32) := ⟨_, rfl⟩
    have hP : va_P D vwCl (wMo K hMo s5) H := by rw [es5]; exact hP
    have hD : va_D A (wMo K hMo s5) := by rw [es5]; exact hD
    have hf := lz_s hf s5 es5
    refine lv_aload_n hx hb dX11_seekWays_27 rfl (lv_at hl 0 rfl) ?_
    refine va_get (D := D) (ci := 10) (v := .ref (hMo 33)) (C := RX11) (T := TX11) (N := 41) hx hb hts iX11 hown hK hP 0 o_Mo rfl 33 (by decide) (htl _ (mB6 _ (List.mem_of_getElem? (i := 16) rfl))) (fun _ h9 => h9) rfl dX11_seekWays_28 ?_
    refine lv_iconst (v := (0 : Int32)) hx hb dX11_seekWays_31 (by decide) ?_
    refine lv_aload_n hx hb dX11_seekWays_32 rfl (lv_at hl 0 rfl) ?_
    refine lv_iconst (v := (0 : Int32)) hx hb dX11_seekWays_33 (by decide) ?_
    obtain ⟨o6, go6, hf⟩ := bd_s hf
    refine ro_Vi (As := [.int (0 : Int32)]) (rest := [.int (0 : Int32), .ref (hMo 33)]) ⟨hx, hb, hml, hown, hts⟩ (c_X11_placeOf l D K F hMo s5 (0 : Int32) o6 go6) (cwV 1 hts (gcV_X11_placeOf (mB26 _ (List.mem_of_getElem? (i := 19) rfl))) rfl rfl rfl hdV_X11_placeOf ⟨Nat.le_of_ble_eq_true rfl, Nat.le_of_ble_eq_true rfl⟩) hK hP hS hP (va_recv hK hP (ci := 10) (q0 := 0) rfl o_Mo) rfl hl.1 rfl (Nat.le_of_ble_eq_true rfl) dX11_seekWays_34 ⟨Nat.zero_le _, Nat.zero_le _⟩ (fun H locs hP hS => ?_)
    obtain ⟨g7, hf⟩ := gd_s hf
    refine va_iast hx hb hK hP hD hS 16 0 (f := s5.2.2.1 33) a_Mo_33 rfl (vpb_in g7) dX11_seekWays_37 (fun H locs hP hD hS => ?_)
    have hP := cvP sa_Mo_33 hP
    have hD := cvD sa_Mo_33 hD
    obtain ⟨s8, es8⟩ : ∃ z, z = sA s5 33 ((0 : Int32).toNatClampNeg) o6 := ⟨_, rfl⟩
    have hP : va_P D vwCl (wMo K hMo s8) H := by rw [es8]; exact hP
    have hD : va_D A (wMo K hMo s8) := by rw [es8]; exact hD
    have hf := lz_s hf s8 es8
    refine lv_aload_n hx hb dX11_seekWays_38 rfl (lv_at hl 0 rfl) ?_
    refine lv_iconst (v := (1 : Int32)) hx hb dX11_seekWays_39 (by decide) ?_
    refine lv_iconst (v := (1 : Int32)) hx hb dX11_seekWays_40 (by decide) ?_
    refine lv_aload_n hx hb dX11_seekWays_41 rfl (lv_at hl 0 rfl) ?_
    refine va_get (D := D) (ci := 10) (v := .ref (hMo 33)) (C := RX11) (T := TX11) (N := 41) hx hb hts iX11 hown hK hP 0 o_Mo rfl 33 (by decide) (htl _ (mB6 _ (List.mem_of_getElem? (i := 16) rfl))) (fun _ h9 => h9) rfl dX11_seekWays_42 ?_
    refine lv_iconst (v := (0 : Int32)) hx hb dX11_seekWays_45 (by decide) ?_
    obtain ⟨g9, hf⟩ := gd_s hf
    refine va_iald hx hb hK hP 16 0 (f := s8.2.2.1 33) a_Mo_33 rfl (vpb_in g9) dX11_seekWays_46 ?_
    refine lv_topi (fun v10 ev10 => ?_)
    have hf := lz_s hf v10 ev10
    refine lv_ishl hx hb dX11_seekWays_47 ?_
    obtain ⟨o11, go11, hf⟩ := bd_s hf
    refine rs_Vv (As := [.int (1 : Int32), .int ((1 : Int32) <<< (v10 &&& 31))]) (rest := []) ⟨hx, hb, hml, hown, hts⟩ (c_X11_wayFrom l D K F hMo 20 H.size s8 (1 : Int32) ((1 : Int32) <<< (v10 &&& 31)) o11 go11) (cwV 2 hts (gcV_X11_wayFrom (mB57 _ (List.mem_of_getElem? (i := 13) rfl))) rfl rfl rfl hdV_X11_wayFrom ⟨Nat.le_of_ble_eq_true rfl, Nat.le_of_ble_eq_true rfl⟩) hK hP hD hS hA (va_recv hK hP (ci := 10) (q0 := 0) rfl o_Mo) rfl hl.1 rfl (Nat.le_of_ble_eq_true rfl) dX11_seekWays_48 ⟨Nat.zero_le _, Nat.zero_le _⟩ (fun H locs hP hD hS => ?_)
    have hP : va_P D vwCl (wMo K hMo o11) H := hP
    have hD : va_D A (wMo K hMo o11) := hD
    have e9 := Option.some.inj hf
    rw [hQ]
    exact W.vret hx hb hr (fun t ht hW => ⟨⟨o11, rfl, e9, ⟨by rw [ht]; exact hP, va_K.moved hW.alike hK, hD⟩⟩, hS.F ht⟩) hS.2.2 dX11_seekWays_51
  rw [hHe] at hgo
  exact hgo

theorem gcV_X11_seekWays {T0 : Cond} {own : String} {i : Nat} (h : Cond.methodLink own i yX11_seekWays ∈ wsL_law) : GoodIn (T0 :: wsL_law) (wsV own i RX11 yX11_seekWays wz_X11_seekWays) := gV h (mB57 _ (List.mem_of_getElem? (i := 6) rfl)) (mB57 _ (List.mem_of_getElem? (i := 7) rfl)) (mB1 _ (List.mem_of_getElem? (i := 5) rfl)) (mB57 _ (List.mem_of_getElem? (i := 8) rfl))
theorem hdV_X11_seekWays : yX11_seekWays.cls = RX11 ∧ yX11_seekWays.cls ≠ "java/lang/invoke/MethodHandle" ∧ yX11_seekWays.cls ≠ "java/lang/invoke/VarHandle" ∧ (parseMethodDescriptor yX11_seekWays.desc).map (fun d => d.parameters.length) = some 2 := by decide +kernel
def wz_X11_fits : List Cond := .code yX11_fits cX11_fits 1 (some .int) :: wsL_law
abbrev r_X11_fits : Room := { frames := 44, cells := 0, slots := 0, locals := 1094 }
set_option maxHeartbeats 4000000 in
set_option maxRecDepth 100000 in
theorem c_X11_fits (l : Launch) (D : va_G) (K : Nat → ClassId) (F : Nat) (hMo : Nat → Nat) (sz : Nat) (sMo : MS) (res : Int32 × MS) (hf : f_X11_fits F sMo = some res) : Met l yX11_fits wz_X11_fits r_X11_fits (va_Pc [.ref (hMo 99)] (PW D K (wMo K hMo sMo) sz)) (va_Qi (fun r u => r = res.1 ∧ u = res.2) (fun u t => BW D K (va_A (wMo K hMo sMo) sz) (wMo K hMo u) t) (va_A (wMo K hMo sMo) sz)) 0 0 (va_A (wMo K hMo sMo) sz) := by
  refine Met.ofW (cc := cX11_fits) (maxL := 1) (ret := (some .int)) (by decide) rfl ?_
  intro p e s m args below meth c s₁ B hml hv
  obtain ⟨hargs, hsz, hP, hK, hD0⟩ := hv
  have hx := B.exec
  have hb := B.bytes
  have hr := B.returns
  have hts := atoms_spec (ws := wz_X11_fits) B.pre
  have htl : ∀ w ∈ wsL_law, w.before args s = true := fun w h => hts w (List.mem_cons_of_mem _ h)
  have hown : s.vm.findClass RX11 = some m.cls := findClass_of_methodNamed B.named
  have hlocks := B.notSynchronized
  subst hsz
  have hD := hD0.self (sz := s.heap.size)
  generalize hAe : va_A (wMo K hMo sMo) s.heap.size = A at hD ⊢
  have hA : ∀ q : Nat, s.heap.size ≤ q → A q := fun q h => by rw [← hAe]; exact Or.inr h
  have hS : va_S A s.heap s.heap [] := va_S.rf
  have iX11 : ∀ w ∈ wsX110, w ∈ wz_X11_fits := fun w h => List.mem_cons_of_mem _ (inlX11 w h)
  suffices hgo : ∀ Q : State → Prop, Q = MQ below (va_Qi (fun r u => r = res.1 ∧ u = res.2) (fun u t => BW D K A (wMo K hMo u) t) A) args s 0 0 A → W p l e (headSpec wz_X11_fits r_X11_fits).room s m args below meth c s.heap [] 0 0 Q (entryFrame m args 1) from hgo _ rfl
  intro Q hQ
  have hen : entryFrame m args 1 = entryFrame m (([.ref (hMo 99)] : List Value).toArray) 1 := by rw [hargs]
  have hl := lv_entry ([.ref (hMo 99)]) (n := 1) (Nat.le_of_ble_eq_true rfl)
  rw [hen, lg_entry_eq]
  generalize (lg_sl ([.ref (hMo 99)]) ++ List.replicate (1 - (lg_sl ([.ref (hMo 99)])).length) Slot.unset).toArray = ls at hl ⊢
  have hl : lv_has ls 1 [(0, .ref (hMo 99))] := hl
  unfold f_X11_fits at hf
  obtain ⟨H, hHe⟩ : ∃ z, z = s.heap := ⟨_, rfl⟩
  obtain ⟨locs, hLe⟩ : ∃ z : List Loc, z = [] := ⟨_, rfl⟩
  rw [← hLe]
  have hS : va_S A s.heap H locs := by rw [hHe, hLe]; exact hS
  have hP : va_P D vwCl (wMo K hMo sMo) H := by rw [hHe]; exact hP
  have hgo : W p l e (headSpec wz_X11_fits r_X11_fits).room s m args below meth c H locs 0 0 Q (F0 m 0 ls []) := by
    refine lv_aload_n hx hb dX11_fits_0 rfl (lv_at hl 0 rfl) ?_
    obtain ⟨o1, go1, hf⟩ := bd_s hf
    refine rs_Vv (As := []) (rest := []) ⟨hx, hb, hml, hown, hts⟩ (c_X11_good l D K F hMo H.size sMo o1 go1) (cwV 0 hts (gcV_X11_good (mB18 _ (List.mem_of_getElem? (i := 7) rfl))) rfl rfl rfl hdV_X11_good ⟨Nat.le_of_ble_eq_true rfl, Nat.le_of_ble_eq_true rfl⟩) hK hP hD hS hA (va_recv hK hP (ci := 10) (q0 := 0) rfl o_Mo) rfl hl.1 rfl (Nat.le_of_ble_eq_true rfl) dX11_fits_1 ⟨Nat.zero_le _, Nat.zero_le _⟩ (fun H locs hP hD hS => ?_)
    have hP : va_P D vwCl (wMo K hMo o1) H := hP
    have hD : va_D A (wMo K hMo o1) := hD
    refine lv_aload_n hx hb dX11_fits_4 rfl (lv_at hl 0 rfl) ?_
    refine va_get (D := D) (ci := 10) (v := .int (o1.1 14)) (C := RX11) (T := TX11) (N := 41) hx hb hts iX11 hown hK hP 0 o_Mo rfl 14 (by decide) (htl _ (mB18 _ (List.mem_of_getElem? (i := 4) rfl))) (fun _ h9 => h9) rfl dX11_fits_5 ?_
    refine lv_if_ne (tgt := 17) hx hb dX11_fits_8 (by decide) (fun c2 => ?_) (fun c2 => ?_)
    · have hf := it_f hf c2
      refine lv_aload_n hx hb dX11_fits_17 rfl (lv_at hl 0 rfl) ?_
      refine lv_aload_n hx hb dX11_fits_18 rfl (lv_at hl 0 rfl) ?_
      refine va_get (D := D) (ci := 10) (v := .ref (hMo 15)) (C := RX11) (T := TX11) (N := 41) hx hb hts iX11 hown hK hP 0 o_Mo rfl 15 (by decide) (htl _ (mB6 _ (List.mem_of_getElem? (i := 3) rfl))) (fun _ h9 => h9) rfl dX11_fits_19 ?_
      refine lv_iconst (v := (1 : Int32)) hx hb dX11_fits_22 (by decide) ?_
      obtain ⟨g3, hf⟩ := gd_s hf
      refine va_iald hx hb hK hP 3 0 (f := o1.2.2.1 15) a_Mo_15 rfl (vpb_in g3) dX11_fits_23 ?_
      refine lv_topi (fun v4 ev4 => ?_)
      have hf := lz_s hf v4 ev4
      refine lv_iconst (v := (-1 : Int32)) hx hb dX11_fits_24 (by decide) ?_
      obtain ⟨o5, go5, hf⟩ := bd_s hf
      refine rs_Vv (As := [.int v4, .int (-1 : Int32)]) (rest := []) ⟨hx, hb, hml, hown, hts⟩ (c_X11_seekWays l D K F hMo H.size o1 v4 (-1 : Int32) o5 go5) (cwV 2 hts (gcV_X11_seekWays (mB57 _ (List.mem_of_getElem? (i := 5) rfl))) rfl rfl rfl hdV_X11_seekWays ⟨Nat.le_of_ble_eq_true rfl, Nat.le_of_ble_eq_true rfl⟩) hK hP hD hS hA (va_recv hK hP (ci := 10) (q0 := 0) rfl o_Mo) rfl hl.1 rfl (Nat.le_of_ble_eq_true rfl) dX11_fits_25 ⟨Nat.zero_le _, Nat.zero_le _⟩ (fun H locs hP hD hS => ?_)
      have hP : va_P D vwCl (wMo K hMo o5) H := hP
      have hD : va_D A (wMo K hMo o5) := hD
      refine lv_aload_n hx hb dX11_fits_28 rfl (lv_at hl 0 rfl) ?_
      refine va_get (D := D) (ci := 10) (v := .int (o5.1 36)) (C := RX11) (T := TX11) (N := 41) hx hb hts iX11 hown hK hP 0 o_Mo rfl 36 (by decide) (htl _ (mB57 _ (List.mem_of_getElem? (i := 4) rfl))) (fun _ h9 => h9) rfl dX11_fits_29 ?_
      have e9 := Option.some.inj hf
      rw [hQ]
      exact W.iret (v := (o5.1 36)) hx hb hr (fun t ht hW => ⟨⟨(o5.1 36), o5, rfl, ⟨pr1 e9, pr2 e9⟩, ⟨by rw [ht]; exact hP, va_K.moved hW.alike hK, hD⟩⟩, hS.F ht⟩) hS.2.2 dX11_fits_32
    · have hf := it_t hf c2
      refine lv_aload_n hx hb dX11_fits_11 rfl (lv_at hl 0 rfl) ?_
      refine lv_iconst (v := (1 : Int32)) hx hb dX11_fits_12 (by decide) ?_
      obtain ⟨o6, go6, hf⟩ := bd_s hf
      refine rs_Vi (As := [.int (1 : Int32)]) (rest := []) ⟨hx, hb, hml, hown, hts⟩ (c_X11_no l D K F hMo H.size o1 (1 : Int32) o6 go6) (cwV 1 hts (gcV_X11_no (mB18 _ (List.mem_of_getElem? (i := 15) rfl))) rfl rfl rfl hdV_X11_no ⟨Nat.le_of_ble_eq_true rfl, Nat.le_of_ble_eq_true rfl⟩) hK hP hD hS hA (va_recv hK hP (ci := 10) (q0 := 0) rfl o_Mo) rfl hl.1 rfl (Nat.le_of_ble_eq_true rfl) dX11_fits_13 ⟨Nat.zero_le _, Nat.zero_le _⟩ (fun H locs hP hD hS => ?_)
      have hP : va_P D vwCl (wMo K hMo o6.2) H := hP
      have hD : va_D A (wMo K hMo o6.2) := hD
      have e9 := Option.some.inj hf
      rw [hQ]
      exact W.iret (v := o6.1) hx hb hr (fun t ht hW => ⟨⟨o6.1, o6.2, rfl, ⟨pr1 e9, pr2 e9⟩, ⟨by rw [ht]; exact hP, va_K.moved hW.alike hK, hD⟩⟩, hS.F ht⟩) hS.2.2 dX11_fits_16
  rw [hHe] at hgo
  exact hgo

def wz_X11_fit : List Cond := .code yX11_fit cX11_fit 3 (some .int) :: wsL_law
abbrev r_X11_fit : Room := { frames := 44, cells := 0, slots := 0, locals := 1094 }
set_option maxHeartbeats 4000000 in
set_option maxRecDepth 100000 in
theorem c_X11_fit (l : Launch) (D : va_G) (K : Nat → ClassId) (F : Nat) (hMo : Nat → Nat) (sz : Nat) (sMo : MS) (p1 : Int32) (p2 : Int32) (res : Int32 × MS) (hf : f_X11_fit F p1 p2 sMo = some res) : Met l yX11_fit wz_X11_fit r_X11_fit (va_Pc [.ref (hMo 99), .int p1, .int p2] (PW D K (wMo K hMo sMo) sz)) (va_Qi (fun r u => r = res.1 ∧ u = res.2) (fun u t => BW D K (va_A (wMo K hMo sMo) sz) (wMo K hMo u) t) (va_A (wMo K hMo sMo) sz)) 0 0 (va_A (wMo K hMo sMo) sz) := by
  refine Met.ofW (cc := cX11_fit) (maxL := 3) (ret := (some .int)) (by decide) rfl ?_
  intro p e s m args below meth c s₁ B hml hv
  obtain ⟨hargs, hsz, hP, hK, hD0⟩ := hv
  have hx := B.exec
  have hb := B.bytes
  have hr := B.returns
  have hts := atoms_spec (ws := wz_X11_fit) B.pre
  have htl : ∀ w ∈ wsL_law, w.before args s = true := fun w h => hts w (List.mem_cons_of_mem _ h)
  have hown : s.vm.findClass RX11 = some m.cls := findClass_of_methodNamed B.named
  have hlocks := B.notSynchronized
  subst hsz
  have hD := hD0.self (sz := s.heap.size)
  generalize hAe : va_A (wMo K hMo sMo) s.heap.size = A at hD ⊢
  have hA : ∀ q : Nat, s.heap.size ≤ q → A q := fun q h => by rw [← hAe]; exact Or.inr h
  have hS : va_S A s.heap s.heap [] := va_S.rf
  have iX11 : ∀ w ∈ wsX110, w ∈ wz_X11_fit := fun w h => List.mem_cons_of_mem _ (inlX11 w h)
  suffices hgo : ∀ Q : State → Prop, Q = MQ below (va_Qi (fun r u => r = res.1 ∧ u = res.2) (fun u t => BW D K A (wMo K hMo u) t) A) args s 0 0 A → W p l e (headSpec wz_X11_fit r_X11_fit).room s m args below meth c s.heap [] 0 0 Q (entryFrame m args 3) from hgo _ rfl
  intro Q hQ
  have w15 : ∀ (sMo : MS), ∀ (H : Heap) (locs : List Loc) (ls : Array Slot), f_X11_fit_15 F p1 p2 sMo = some res → va_P D vwCl (wMo K hMo sMo) H → va_D A (wMo K hMo sMo) → va_S A s.heap H locs → lv_has ls 3 [(0, .ref (hMo 99))] → W p l e (headSpec wz_X11_fit r_X11_fit).room s m args below meth c H locs 0 0 Q (F0 m 15 ls []) := by
    intro sMo H locs ls hf hP hD hS hl
    unfold f_X11_fit_15 at hf
    refine lv_aload_n hx hb dX11_fit_15 rfl (lv_at hl 0 rfl) ?_
    refine lv_iconst (v := (1 : Int32)) hx hb dX11_fit_16 (by decide) ?_
    obtain ⟨o14, go14, hf⟩ := bd_s hf
    refine rs_Vi (As := [.int (1 : Int32)]) (rest := []) ⟨hx, hb, hml, hown, hts⟩ (c_X11_no l D K F hMo H.size sMo (1 : Int32) o14 go14) (cwV 1 hts (gcV_X11_no (mB18 _ (List.mem_of_getElem? (i := 15) rfl))) rfl rfl rfl hdV_X11_no ⟨Nat.le_of_ble_eq_true rfl, Nat.le_of_ble_eq_true rfl⟩) hK hP hD hS hA (va_recv hK hP (ci := 10) (q0 := 0) rfl o_Mo) rfl hl.1 rfl (Nat.le_of_ble_eq_true rfl) dX11_fit_17 ⟨Nat.zero_le _, Nat.zero_le _⟩ (fun H locs hP hD hS => ?_)
    have hP : va_P D vwCl (wMo K hMo o14.2) H := hP
    have hD : va_D A (wMo K hMo o14.2) := hD
    have e9 := Option.some.inj hf
    rw [hQ]
    exact W.iret (v := o14.1) hx hb hr (fun t ht hW => ⟨⟨o14.1, o14.2, rfl, ⟨pr1 e9, pr2 e9⟩, ⟨by rw [ht]; exact hP, va_K.moved hW.alike hK, hD⟩⟩, hS.F ht⟩) hS.2.2 dX11_fit_20
  have w68 : ∀ (sMo : MS), ∀ (H : Heap) (locs : List Loc) (ls : Array Slot), f_X11_fit_68 F p1 p2 sMo = some res → va_P D vwCl (wMo K hMo sMo) H → va_D A (wMo K hMo sMo) → va_S A s.heap H locs → lv_has ls 3 [(0, .ref (hMo 99))] → W p l e (headSpec wz_X11_fit r_X11_fit).room s m args below meth c H locs 0 0 Q (F0 m 68 ls []) := by
    intro sMo H locs ls hf hP hD hS hl
    unfold f_X11_fit_68 at hf
    refine lv_aload_n hx hb dX11_fit_68 rfl (lv_at hl 0 rfl) ?_
    refine lv_iconst (v := (1 : Int32)) hx hb dX11_fit_69 (by decide) ?_
    obtain ⟨o13, go13, hf⟩ := bd_s hf
    refine rs_Vi (As := [.int (1 : Int32)]) (rest := []) ⟨hx, hb, hml, hown, hts⟩ (c_X11_no l D K F hMo H.size sMo (1 : Int32) o13 go13) (cwV 1 hts (gcV_X11_no (mB18 _ (List.mem_of_getElem? (i := 15) rfl))) rfl rfl rfl hdV_X11_no ⟨Nat.le_of_ble_eq_true rfl, Nat.le_of_ble_eq_true rfl⟩) hK hP hD hS hA (va_recv hK hP (ci := 10) (q0 := 0) rfl o_Mo) rfl hl.1 rfl (Nat.le_of_ble_eq_true rfl) dX11_fit_70 ⟨Nat.zero_le _, Nat.zero_le _⟩ (fun H locs hP hD hS => ?_)
    have hP : va_P D vwCl (wMo K hMo o13.2) H := hP
    have hD : va_D A (wMo K hMo o13.2) := hD
    have e9 := Option.some.inj hf
    rw [hQ]
    exact W.iret (v := o13.1) hx hb hr (fun t ht hW => ⟨⟨o13.1, o13.2, rfl, ⟨pr1 e9, pr2 e9⟩, ⟨by rw [ht]; exact hP, va_K.moved hW.alike hK, hD⟩⟩, hS.F ht⟩) hS.2.2 dX11_fit_73
  have hen : entryFrame m args 3 = entryFrame m (([.ref (hMo 99), .int p1, .int p2] : List Value).toArray) 3 := by rw [hargs]
  have hl := lv_entry ([.ref (hMo 99), .int p1, .int p2]) (n := 3) (Nat.le_of_ble_eq_true rfl)
  rw [hen, lg_entry_eq]
  generalize (lg_sl ([.ref (hMo 99), .int p1, .int p2]) ++ List.replicate (3 - (lg_sl ([.ref (hMo 99), .int p1, .int p2])).length) Slot.unset).toArray = ls at hl ⊢
  have hl : lv_has ls 3 [(0, .ref (hMo 99)), (1, .int p1), (2, .int p2)] := hl
  unfold f_X11_fit at hf
  obtain ⟨H, hHe⟩ : ∃ z, z = s.heap := ⟨_, rfl⟩
  obtain ⟨locs, hLe⟩ : ∃ z : List Loc, z = [] := ⟨_, rfl⟩
  rw [← hLe]
  have hS : va_S A s.heap H locs := by rw [hHe, hLe]; exact hS
  have hP : va_P D vwCl (wMo K hMo sMo) H := by rw [hHe]; exact hP
  have hgo : W p l e (headSpec wz_X11_fit r_X11_fit).room s m args below meth c H locs 0 0 Q (F0 m 0 ls []) := by
    refine lv_aload_n hx hb dX11_fit_0 rfl (lv_at hl 0 rfl) ?_
    obtain ⟨o1, go1, hf⟩ := bd_s hf
    refine rs_Vv (As := []) (rest := []) ⟨hx, hb, hml, hown, hts⟩ (c_X11_good l D K F hMo H.size sMo o1 go1) (cwV 0 hts (gcV_X11_good (mB18 _ (List.mem_of_getElem? (i := 7) rfl))) rfl rfl rfl hdV_X11_good ⟨Nat.le_of_ble_eq_true rfl, Nat.le_of_ble_eq_true rfl⟩) hK hP hD hS hA (va_recv hK hP (ci := 10) (q0 := 0) rfl o_Mo) rfl hl.1 rfl (Nat.le_of_ble_eq_true rfl) dX11_fit_1 ⟨Nat.zero_le _, Nat.zero_le _⟩ (fun H locs hP hD hS => ?_)
    have hP : va_P D vwCl (wMo K hMo o1) H := hP
    have hD : va_D A (wMo K hMo o1) := hD
    refine lv_aload_n hx hb dX11_fit_4 rfl (lv_at hl 0 rfl) ?_
    refine va_get (D := D) (ci := 10) (v := .int (o1.1 14)) (C := RX11) (T := TX11) (N := 41) hx hb hts iX11 hown hK hP 0 o_Mo rfl 14 (by decide) (htl _ (mB18 _ (List.mem_of_getElem? (i := 4) rfl))) (fun _ h9 => h9) rfl dX11_fit_5 ?_
    refine lv_if_eq (tgt := 15) hx hb dX11_fit_8 (by decide) (fun c2 => ?_) (fun c2 => ?_)
    · have hf := it_t hf c2
      exact w15 o1 H locs ls hf hP hD hS (lv_sub hl [0] rfl)
    · have hf := it_f hf c2
      refine lv_iload_n hx hb dX11_fit_11 rfl (lv_at hl 1 rfl) ?_
      refine lv_if_ge (tgt := 21) hx hb dX11_fit_12 (by decide) (fun c3 => ?_) (fun c3 => ?_)
      · have hf := it_t hf c3
        refine lv_aload_n hx hb dX11_fit_21 rfl (lv_at hl 0 rfl) ?_
        refine lv_aload_n hx hb dX11_fit_22 rfl (lv_at hl 0 rfl) ?_
        refine va_get (D := D) (ci := 10) (v := .ref (hMo 15)) (C := RX11) (T := TX11) (N := 41) hx hb hts iX11 hown hK hP 0 o_Mo rfl 15 (by decide) (htl _ (mB6 _ (List.mem_of_getElem? (i := 3) rfl))) (fun _ h9 => h9) rfl dX11_fit_23 ?_
        refine lv_iconst (v := (1 : Int32)) hx hb dX11_fit_26 (by decide) ?_
        obtain ⟨g4, hf⟩ := gd_s hf
        refine va_iald hx hb hK hP 3 0 (f := o1.2.2.1 15) a_Mo_15 rfl (vpb_in g4) dX11_fit_27 ?_
        refine lv_topi (fun v5 ev5 => ?_)
        have hf := lz_s hf v5 ev5
        refine lv_iload_n hx hb dX11_fit_28 rfl (lv_at hl 1 rfl) ?_
        obtain ⟨o6, go6, hf⟩ := bd_s hf
        refine rs_Vv (As := [.int v5, .int p1]) (rest := []) ⟨hx, hb, hml, hown, hts⟩ (c_X11_seekWays l D K F hMo H.size o1 v5 p1 o6 go6) (cwV 2 hts (gcV_X11_seekWays (mB57 _ (List.mem_of_getElem? (i := 5) rfl))) rfl rfl rfl hdV_X11_seekWays ⟨Nat.le_of_ble_eq_true rfl, Nat.le_of_ble_eq_true rfl⟩) hK hP hD hS hA (va_recv hK hP (ci := 10) (q0 := 0) rfl o_Mo) rfl hl.1 rfl (Nat.le_of_ble_eq_true rfl) dX11_fit_29 ⟨Nat.zero_le _, Nat.zero_le _⟩ (fun H locs hP hD hS => ?_)
        have hP : va_P D vwCl (wMo K hMo o6) H := hP
        have hD : va_D A (wMo K hMo o6) := hD
        refine lv_iload_n hx hb dX11_fit_32 rfl (lv_at hl 1 rfl) ?_
        refine lv_aload_n hx hb dX11_fit_33 rfl (lv_at hl 0 rfl) ?_
        refine va_get (D := D) (ci := 10) (v := .int (o6.1 36)) (C := RX11) (T := TX11) (N := 41) hx hb hts iX11 hown hK hP 0 o_Mo rfl 36 (by decide) (htl _ (mB57 _ (List.mem_of_getElem? (i := 4) rfl))) (fun _ h9 => h9) rfl dX11_fit_34 ?_
        refine lv_icmp_ge (tgt := 68) hx hb dX11_fit_37 (by decide) (fun c7 => ?_) (fun c7 => ?_)
        · have hf := it_t hf c7
          exact w68 o6 H locs ls hf hP hD hS (lv_sub hl [0] rfl)
        · have hf := it_f hf c7
          refine lv_iload_n hx hb dX11_fit_40 rfl (lv_at hl 2 rfl) ?_
          refine lv_iconst (v := (0 : Int32)) hx hb dX11_fit_41 (by decide) ?_
          refine lv_bipush (v := (8 : Int32)) hx hb dX11_fit_42 (by decide) ?_
          obtain ⟨o8, go8, hf⟩ := bd_s hf
          refine ro_Si (As := [.int p2, .int (0 : Int32), .int (8 : Int32)]) (rest := []) ⟨hx, hb, hml, hown, hts⟩ (c_X11_in l D K F p2 (0 : Int32) (8 : Int32) o8 go8) (va_cwS 3 hts (gcS_X11_in (mB18 _ (List.mem_of_getElem? (i := 12) rfl))) rfl rfl rfl hdS_X11_in ⟨Nat.le_of_ble_eq_true rfl, Nat.le_of_ble_eq_true rfl⟩) hK hP hS va_Pnil rfl hl.1 rfl (Nat.le_of_ble_eq_true rfl) dX11_fit_44 ⟨Nat.zero_le _, Nat.zero_le _⟩ (fun H locs hP hS => ?_)
          refine lv_if_eq (tgt := 68) hx hb dX11_fit_47 (by decide) (fun c9 => ?_) (fun c9 => ?_)
          · have hf := it_t hf c9
            exact w68 o6 H locs ls hf hP hD hS (lv_sub hl [0] rfl)
          · have hf := it_f hf c9
            refine lv_aload_n hx hb dX11_fit_50 rfl (lv_at hl 0 rfl) ?_
            refine va_get (D := D) (ci := 10) (v := .ref (hMo 34)) (C := RX11) (T := TX11) (N := 41) hx hb hts iX11 hown hK hP 0 o_Mo rfl 34 (by decide) (htl _ (mB6 _ (List.mem_of_getElem? (i := 17) rfl))) (fun _ h9 => h9) rfl dX11_fit_51 ?_
            refine lv_iload_n hx hb dX11_fit_54 rfl (lv_at hl 2 rfl) ?_
            obtain ⟨g10, hf⟩ := gd_s hf
            refine va_iald hx hb hK hP 17 0 (f := o6.2.2.1 34) a_Mo_34 rfl (vpb_in g10) dX11_fit_55 ?_
            refine lv_if_lt (tgt := 68) hx hb dX11_fit_56 (by decide) (fun c11 => ?_) (fun c11 => ?_)
            · have hf := it_t hf c11
              exact w68 o6 H locs ls hf hP hD hS (lv_sub hl [0] rfl)
            · have hf := it_f hf c11
              refine lv_aload_n hx hb dX11_fit_59 rfl (lv_at hl 0 rfl) ?_
              refine va_get (D := D) (ci := 10) (v := .ref (hMo 34)) (C := RX11) (T := TX11) (N := 41) hx hb hts iX11 hown hK hP 0 o_Mo rfl 34 (by decide) (htl _ (mB6 _ (List.mem_of_getElem? (i := 17) rfl))) (fun _ h9 => h9) rfl dX11_fit_60 ?_
              refine lv_iload_n hx hb dX11_fit_63 rfl (lv_at hl 2 rfl) ?_
              obtain ⟨g12, hf⟩ := gd_s hf
              refine va_iald hx hb hK hP 17 0 (f := o6.2.2.1 34) a_Mo_34 rfl (vpb_in g12) dX11_fit_64 ?_
              refine lv_goto (tgt := 73) hx hb dX11_fit_65 (by decide) ?_
              have e9 := Option.some.inj hf
              rw [hQ]
              exact W.iret (v := (o6.2.2.1 34 p2.toNatClampNeg)) hx hb hr (fun t ht hW => ⟨⟨(o6.2.2.1 34 p2.toNatClampNeg), o6, rfl, ⟨pr1 e9, pr2 e9⟩, ⟨by rw [ht]; exact hP, va_K.moved hW.alike hK, hD⟩⟩, hS.F ht⟩) hS.2.2 dX11_fit_73
      · have hf := it_f hf c3
        exact w15 o1 H locs ls hf hP hD hS (lv_sub hl [0] rfl)
  rw [hHe] at hgo
  exact hgo

def wz_X11_went : List Cond := .code yX11_went cX11_went 2 (some .int) :: wsL_law
abbrev r_X11_went : Room := { frames := 44, cells := 0, slots := 0, locals := 1094 }
set_option maxHeartbeats 4000000 in
set_option maxRecDepth 100000 in
theorem c_X11_went (l : Launch) (D : va_G) (K : Nat → ClassId) (F : Nat) (hMo : Nat → Nat) (sz : Nat) (sMo : MS) (p1 : Int32) (res : Int32 × MS) (hf : f_X11_went F p1 sMo = some res) : Met l yX11_went wz_X11_went r_X11_went (va_Pc [.ref (hMo 99), .int p1] (PW D K (wMo K hMo sMo) sz)) (va_Qi (fun r u => r = res.1 ∧ u = res.2) (fun u t => BW D K (va_A (wMo K hMo sMo) sz) (wMo K hMo u) t) (va_A (wMo K hMo sMo) sz)) 0 0 (va_A (wMo K hMo sMo) sz) := by
  refine Met.ofW (cc := cX11_went) (maxL := 2) (ret := (some .int)) (by decide) rfl ?_
  intro p e s m args below meth c s₁ B hml hv
  obtain ⟨hargs, hsz, hP, hK, hD0⟩ := hv
  have hx := B.exec
  have hb := B.bytes
  have hr := B.returns
  have hts := atoms_spec (ws := wz_X11_went) B.pre
  have htl : ∀ w ∈ wsL_law, w.before args s = true := fun w h => hts w (List.mem_cons_of_mem _ h)
  have hown : s.vm.findClass RX11 = some m.cls := findClass_of_methodNamed B.named
  have hlocks := B.notSynchronized
  subst hsz
  have hD := hD0.self (sz := s.heap.size)
  generalize hAe : va_A (wMo K hMo sMo) s.heap.size = A at hD ⊢
  have hA : ∀ q : Nat, s.heap.size ≤ q → A q := fun q h => by rw [← hAe]; exact Or.inr h
  have hS : va_S A s.heap s.heap [] := va_S.rf
  have iX11 : ∀ w ∈ wsX110, w ∈ wz_X11_went := fun w h => List.mem_cons_of_mem _ (inlX11 w h)
  suffices hgo : ∀ Q : State → Prop, Q = MQ below (va_Qi (fun r u => r = res.1 ∧ u = res.2) (fun u t => BW D K A (wMo K hMo u) t) A) args s 0 0 A → W p l e (headSpec wz_X11_went r_X11_went).room s m args below meth c s.heap [] 0 0 Q (entryFrame m args 2) from hgo _ rfl
  intro Q hQ
  have hen : entryFrame m args 2 = entryFrame m (([.ref (hMo 99), .int p1] : List Value).toArray) 2 := by rw [hargs]
  have hl := lv_entry ([.ref (hMo 99), .int p1]) (n := 2) (Nat.le_of_ble_eq_true rfl)
  rw [hen, lg_entry_eq]
  generalize (lg_sl ([.ref (hMo 99), .int p1]) ++ List.replicate (2 - (lg_sl ([.ref (hMo 99), .int p1])).length) Slot.unset).toArray = ls at hl ⊢
  have hl : lv_has ls 2 [(0, .ref (hMo 99)), (1, .int p1)] := hl
  unfold f_X11_went at hf
  obtain ⟨H, hHe⟩ : ∃ z, z = s.heap := ⟨_, rfl⟩
  obtain ⟨locs, hLe⟩ : ∃ z : List Loc, z = [] := ⟨_, rfl⟩
  rw [← hLe]
  have hS : va_S A s.heap H locs := by rw [hHe, hLe]; exact hS
  have hP : va_P D vwCl (wMo K hMo sMo) H := by rw [hHe]; exact hP
  have hgo : W p l e (headSpec wz_X11_went r_X11_went).room s m args below meth c H locs 0 0 Q (F0 m 0 ls []) := by
    refine lv_aload_n hx hb dX11_went_0 rfl (lv_at hl 0 rfl) ?_
    obtain ⟨o1, go1, hf⟩ := bd_s hf
    refine rs_Vv (As := []) (rest := []) ⟨hx, hb, hml, hown, hts⟩ (c_X11_good l D K F hMo H.size sMo o1 go1) (cwV 0 hts (gcV_X11_good (mB18 _ (List.mem_of_getElem? (i := 7) rfl))) rfl rfl rfl hdV_X11_good ⟨Nat.le_of_ble_eq_true rfl, Nat.le_of_ble_eq_true rfl⟩) hK hP hD hS hA (va_recv hK hP (ci := 10) (q0 := 0) rfl o_Mo) rfl hl.1 rfl (Nat.le_of_ble_eq_true rfl) dX11_went_1 ⟨Nat.zero_le _, Nat.zero_le _⟩ (fun H locs hP hD hS => ?_)
    have hP : va_P D vwCl (wMo K hMo o1) H := hP
    have hD : va_D A (wMo K hMo o1) := hD
    refine lv_aload_n hx hb dX11_went_4 rfl (lv_at hl 0 rfl) ?_
    refine va_get (D := D) (ci := 10) (v := .int (o1.1 14)) (C := RX11) (T := TX11) (N := 41) hx hb hts iX11 hown hK hP 0 o_Mo rfl 14 (by decide) (htl _ (mB18 _ (List.mem_of_getElem? (i := 4) rfl))) (fun _ h9 => h9) rfl dX11_went_5 ?_
    refine lv_if_ne (tgt := 17) hx hb dX11_went_8 (by decide) (fun c2 => ?_) (fun c2 => ?_)
    · have hf := it_f hf c2
      refine lv_aload_n hx hb dX11_went_17 rfl (lv_at hl 0 rfl) ?_
      refine lv_aload_n hx hb dX11_went_18 rfl (lv_at hl 0 rfl) ?_
      refine va_get (D := D) (ci := 10) (v := .ref (hMo 15)) (C := RX11) (T := TX11) (N := 41) hx hb hts iX11 hown hK hP 0 o_Mo rfl 15 (by decide) (htl _ (mB6 _ (List.mem_of_getElem? (i := 3) rfl))) (fun _ h9 => h9) rfl dX11_went_19 ?_
      refine lv_iconst (v := (1 : Int32)) hx hb dX11_went_22 (by decide) ?_
      obtain ⟨g3, hf⟩ := gd_s hf
      refine va_iald hx hb hK hP 3 0 (f := o1.2.2.1 15) a_Mo_15 rfl (vpb_in g3) dX11_went_23 ?_
      refine lv_topi (fun v4 ev4 => ?_)
      have hf := lz_s hf v4 ev4
      refine lv_iconst (v := (-1 : Int32)) hx hb dX11_went_24 (by decide) ?_
      obtain ⟨o5, go5, hf⟩ := bd_s hf
      refine rs_Vv (As := [.int v4, .int (-1 : Int32)]) (rest := []) ⟨hx, hb, hml, hown, hts⟩ (c_X11_seekWays l D K F hMo H.size o1 v4 (-1 : Int32) o5 go5) (cwV 2 hts (gcV_X11_seekWays (mB57 _ (List.mem_of_getElem? (i := 5) rfl))) rfl rfl rfl hdV_X11_seekWays ⟨Nat.le_of_ble_eq_true rfl, Nat.le_of_ble_eq_true rfl⟩) hK hP hD hS hA (va_recv hK hP (ci := 10) (q0 := 0) rfl o_Mo) rfl hl.1 rfl (Nat.le_of_ble_eq_true rfl) dX11_went_25 ⟨Nat.zero_le _, Nat.zero_le _⟩ (fun H locs hP hD hS => ?_)
      have hP : va_P D vwCl (wMo K hMo o5) H := hP
      have hD : va_D A (wMo K hMo o5) := hD
      refine lv_iload_n hx hb dX11_went_28 rfl (lv_at hl 1 rfl) ?_
      refine lv_if_eq (tgt := 50) hx hb dX11_went_29 (by decide) (fun c6 => ?_) (fun c6 => ?_)
      · have hf := it_t hf c6
        refine lv_aload_n hx hb dX11_went_50 rfl (lv_at hl 0 rfl) ?_
        refine va_get (D := D) (ci := 10) (v := .int (o5.1 38)) (C := RX11) (T := TX11) (N := 41) hx hb hts iX11 hown hK hP 0 o_Mo rfl 38 (by decide) (htl _ (mB57 _ (List.mem_of_getElem? (i := 12) rfl))) (fun _ h9 => h9) rfl dX11_went_51 ?_
        have e9 := Option.some.inj hf
        rw [hQ]
        exact W.iret (v := (o5.1 38)) hx hb hr (fun t ht hW => ⟨⟨(o5.1 38), o5, rfl, ⟨pr1 e9, pr2 e9⟩, ⟨by rw [ht]; exact hP, va_K.moved hW.alike hK, hD⟩⟩, hS.F ht⟩) hS.2.2 dX11_went_54
      · have hf := it_f hf c6
        refine lv_aload_n hx hb dX11_went_32 rfl (lv_at hl 0 rfl) ?_
        refine va_get (D := D) (ci := 10) (v := .int (o5.1 36)) (C := RX11) (T := TX11) (N := 41) hx hb hts iX11 hown hK hP 0 o_Mo rfl 36 (by decide) (htl _ (mB57 _ (List.mem_of_getElem? (i := 4) rfl))) (fun _ h9 => h9) rfl dX11_went_33 ?_
        refine lv_if_ne (tgt := 43) hx hb dX11_went_36 (by decide) (fun c7 => ?_) (fun c7 => ?_)
        · have hf := it_f hf c7
          refine lv_aload_n hx hb dX11_went_43 rfl (lv_at hl 0 rfl) ?_
          refine va_get (D := D) (ci := 10) (v := .int (o5.1 37)) (C := RX11) (T := TX11) (N := 41) hx hb hts iX11 hown hK hP 0 o_Mo rfl 37 (by decide) (htl _ (mB57 _ (List.mem_of_getElem? (i := 11) rfl))) (fun _ h9 => h9) rfl dX11_went_44 ?_
          refine lv_goto (tgt := 54) hx hb dX11_went_47 (by decide) ?_
          have e9 := Option.some.inj hf
          rw [hQ]
          exact W.iret (v := (o5.1 37)) hx hb hr (fun t ht hW => ⟨⟨(o5.1 37), o5, rfl, ⟨pr1 e9, pr2 e9⟩, ⟨by rw [ht]; exact hP, va_K.moved hW.alike hK, hD⟩⟩, hS.F ht⟩) hS.2.2 dX11_went_54
        · have hf := it_t hf c7
          refine lv_iconst (v := (0 : Int32)) hx hb dX11_went_39 (by decide) ?_
          refine lv_goto (tgt := 54) hx hb dX11_went_40 (by decide) ?_
          have e9 := Option.some.inj hf
          rw [hQ]
          exact W.iret (v := (0 : Int32)) hx hb hr (fun t ht hW => ⟨⟨(0 : Int32), o5, rfl, ⟨pr1 e9, pr2 e9⟩, ⟨by rw [ht]; exact hP, va_K.moved hW.alike hK, hD⟩⟩, hS.F ht⟩) hS.2.2 dX11_went_54
    · have hf := it_t hf c2
      refine lv_aload_n hx hb dX11_went_11 rfl (lv_at hl 0 rfl) ?_
      refine lv_iconst (v := (1 : Int32)) hx hb dX11_went_12 (by decide) ?_
      obtain ⟨o8, go8, hf⟩ := bd_s hf
      refine rs_Vi (As := [.int (1 : Int32)]) (rest := []) ⟨hx, hb, hml, hown, hts⟩ (c_X11_no l D K F hMo H.size o1 (1 : Int32) o8 go8) (cwV 1 hts (gcV_X11_no (mB18 _ (List.mem_of_getElem? (i := 15) rfl))) rfl rfl rfl hdV_X11_no ⟨Nat.le_of_ble_eq_true rfl, Nat.le_of_ble_eq_true rfl⟩) hK hP hD hS hA (va_recv hK hP (ci := 10) (q0 := 0) rfl o_Mo) rfl hl.1 rfl (Nat.le_of_ble_eq_true rfl) dX11_went_13 ⟨Nat.zero_le _, Nat.zero_le _⟩ (fun H locs hP hD hS => ?_)
      have hP : va_P D vwCl (wMo K hMo o8.2) H := hP
      have hD : va_D A (wMo K hMo o8.2) := hD
      have e9 := Option.some.inj hf
      rw [hQ]
      exact W.iret (v := o8.1) hx hb hr (fun t ht hW => ⟨⟨o8.1, o8.2, rfl, ⟨pr1 e9, pr2 e9⟩, ⟨by rw [ht]; exact hP, va_K.moved hW.alike hK, hD⟩⟩, hS.F ht⟩) hS.2.2 dX11_went_16
  rw [hHe] at hgo
  exact hgo

def wz_X11_needle : List Cond := .code yX11_needle cX11_needle 4 (some .int) :: wsL_law
abbrev r_X11_needle : Room := { frames := 44, cells := 0, slots := 0, locals := 1094 }
set_option maxHeartbeats 4000000 in
set_option maxRecDepth 100000 in
theorem c_X11_needle (l : Launch) (D : va_G) (K : Nat → ClassId) (F : Nat) (hMo : Nat → Nat) (sz : Nat) (sMo : MS) (p1 : Int32) (res : Int32 × MS) (hf : f_X11_needle F p1 sMo = some res) : Met l yX11_needle wz_X11_needle r_X11_needle (va_Pc [.ref (hMo 99), .int p1] (PW D K (wMo K hMo sMo) sz)) (va_Qi (fun r u => r = res.1 ∧ u = res.2) (fun u t => BW D K (va_A (wMo K hMo sMo) sz) (wMo K hMo u) t) (va_A (wMo K hMo sMo) sz)) 0 0 (va_A (wMo K hMo sMo) sz) := by
  refine Met.ofW (cc := cX11_needle) (maxL := 4) (ret := (some .int)) (by decide) rfl ?_
  intro p e s m args below meth c s₁ B hml hv
  obtain ⟨hargs, hsz, hP, hK, hD0⟩ := hv
  have hx := B.exec
  have hb := B.bytes
  have hr := B.returns
  have hts := atoms_spec (ws := wz_X11_needle) B.pre
  have htl : ∀ w ∈ wsL_law, w.before args s = true := fun w h => hts w (List.mem_cons_of_mem _ h)
  have hown : s.vm.findClass RX11 = some m.cls := findClass_of_methodNamed B.named
  have hlocks := B.notSynchronized
  subst hsz
  have hD := hD0.self (sz := s.heap.size)
  generalize hAe : va_A (wMo K hMo sMo) s.heap.size = A at hD ⊢
  have hA : ∀ q : Nat, s.heap.size ≤ q → A q := fun q h => by rw [← hAe]; exact Or.inr h
  have hS : va_S A s.heap s.heap [] := va_S.rf
  have iX11 : ∀ w ∈ wsX110, w ∈ wz_X11_needle := fun w h => List.mem_cons_of_mem _ (inlX11 w h)
  suffices hgo : ∀ Q : State → Prop, Q = MQ below (va_Qi (fun r u => r = res.1 ∧ u = res.2) (fun u t => BW D K A (wMo K hMo u) t) A) args s 0 0 A → W p l e (headSpec wz_X11_needle r_X11_needle).room s m args below meth c s.heap [] 0 0 Q (entryFrame m args 4) from hgo _ rfl
  intro Q hQ
  have w57 : ∀ (k22 : Int32 → Int32 → MS → Option (Int32 × MS)), (∀ (x2 : Int32), ∀ (x3 : Int32), ∀ (sMo : MS), ∀ (H : Heap) (locs : List Loc) (ls : Array Slot), k22 x2 x3 sMo = some res → va_P D vwCl (wMo K hMo sMo) H → va_D A (wMo K hMo sMo) → va_S A s.heap H locs → lv_has ls 4 [(0, .ref (hMo 99)), (1, .int p1), (2, .int x2), (3, .int x3)] → W p l e (headSpec wz_X11_needle r_X11_needle).room s m args below meth c H locs 0 0 Q (F0 m 22 ls [])) → ∀ (x2 : Int32), ∀ (x3 : Int32), ∀ (sMo : MS), ∀ (H : Heap) (locs : List Loc) (ls : Array Slot), f_X11_needle_57 F p1 k22 x2 x3 sMo = some res → va_P D vwCl (wMo K hMo sMo) H → va_D A (wMo K hMo sMo) → va_S A s.heap H locs → lv_has ls 4 [(0, .ref (hMo 99)), (1, .int p1), (2, .int x2), (3, .int x3)] → W p l e (headSpec wz_X11_needle r_X11_needle).room s m args below meth c H locs 0 0 Q (F0 m 57 ls []) := by
    intro k22 hk22 x2 x3 sMo H locs ls hf hP hD hS hl
    unfold f_X11_needle_57 at hf
    obtain ⟨v11, ev11⟩ : ∃ z : Int32, z = x3 + (1 : Int32) := ⟨_, rfl⟩
    have hf := lz_s hf v11 ev11
    refine lv_iinc (v := v11) (lv' := [(3, .int v11), (0, .ref (hMo 99)), (1, .int p1), (2, .int x2)]) hx hb dX11_needle_57 hl (k := 3) rfl (by rw [ev11]; rfl) (by decide) rfl (fun ls hl => ?_)
    refine lv_goto (tgt := 22) hx hb dX11_needle_60 (by decide) ?_
    exact hk22 x2 v11 sMo H locs ls hf hP hD hS (lv_sub hl [1, 2, 3, 0] rfl)
  have w55 : ∀ (k22 : Int32 → Int32 → MS → Option (Int32 × MS)), (∀ (x2 : Int32), ∀ (x3 : Int32), ∀ (sMo : MS), ∀ (H : Heap) (locs : List Loc) (ls : Array Slot), k22 x2 x3 sMo = some res → va_P D vwCl (wMo K hMo sMo) H → va_D A (wMo K hMo sMo) → va_S A s.heap H locs → lv_has ls 4 [(0, .ref (hMo 99)), (1, .int p1), (2, .int x2), (3, .int x3)] → W p l e (headSpec wz_X11_needle r_X11_needle).room s m args below meth c H locs 0 0 Q (F0 m 22 ls [])) → ∀ (x3 : Int32), ∀ (sMo : MS), ∀ (H : Heap) (locs : List Loc) (ls : Array Slot), f_X11_needle_55 F p1 k22 x3 sMo = some res → va_P D vwCl (wMo K hMo sMo) H → va_D A (wMo K hMo sMo) → va_S A s.heap H locs → lv_has ls 4 [(0, .ref (hMo 99)), (1, .int p1), (3, .int x3)] → W p l e (headSpec wz_X11_needle r_X11_needle).room s m args below meth c H locs 0 0 Q (F0 m 55 ls []) := by
    intro k22 hk22 x3 sMo H locs ls hf hP hD hS hl
    unfold f_X11_needle_55 at hf
    refine lv_iload_n hx hb dX11_needle_55 rfl (lv_at hl 2 rfl) ?_
    refine lv_istore_n (lv' := [(2, .int x3), (0, .ref (hMo 99)), (1, .int p1), (3, .int x3)]) hx hb dX11_needle_56 rfl hl (by decide) rfl (fun ls hl => ?_)
    exact w57 k22 hk22 x3 x3 sMo H locs ls hf hP hD hS (lv_sub hl [1, 2, 0, 3] rfl)
  have w22 : ∀ (n : Nat), ∀ (x2 : Int32), ∀ (x3 : Int32), ∀ (sMo : MS), ∀ (H : Heap) (locs : List Loc) (ls : Array Slot), f_X11_needle_22 F p1 n x2 x3 sMo = some res → va_P D vwCl (wMo K hMo sMo) H → va_D A (wMo K hMo sMo) → va_S A s.heap H locs → lv_has ls 4 [(0, .ref (hMo 99)), (1, .int p1), (2, .int x2), (3, .int x3)] → W p l e (headSpec wz_X11_needle r_X11_needle).room s m args below meth c H locs 0 0 Q (F0 m 22 ls []) := by
    intro n
    induction n with
    | zero =>
      intro x2 x3 sMo H locs ls hf
      exact absurd (show none = some res from hf) (fun h => nomatch h)
    | succ n ih =>
      intro x2 x3 sMo H locs ls hf hP hD hS hl
      rw [f_X11_needle_22] at hf
      refine lv_iload_n hx hb dX11_needle_22 rfl (lv_at hl 3 rfl) ?_
      refine lv_aload_n hx hb dX11_needle_23 rfl (lv_at hl 0 rfl) ?_
      refine va_get (D := D) (ci := 10) (v := .ref (hMo 15)) (C := RX11) (T := TX11) (N := 41) hx hb hts iX11 hown hK hP 0 o_Mo rfl 15 (by decide) (htl _ (mB6 _ (List.mem_of_getElem? (i := 3) rfl))) (fun _ h9 => h9) rfl dX11_needle_24 ?_
      refine lv_iconst (v := (0 : Int32)) hx hb dX11_needle_27 (by decide) ?_
      obtain ⟨g4, hf⟩ := gd_s hf
      refine va_iald hx hb hK hP 3 0 (f := sMo.2.2.1 15) a_Mo_15 rfl (vpb_in g4) dX11_needle_28 ?_
      refine lv_topi (fun v5 ev5 => ?_)
      have hf := lz_s hf v5 ev5
      refine lv_icmp_gt (tgt := 63) hx hb dX11_needle_29 (by decide) (fun c6 => ?_) (fun c6 => ?_)
      · have hf := it_t hf c6
        refine lv_iload_n hx hb dX11_needle_63 rfl (lv_at hl 2 rfl) ?_
        have e9 := Option.some.inj hf
        rw [hQ]
        exact W.iret (v := x2) hx hb hr (fun t ht hW => ⟨⟨x2, sMo, rfl, ⟨pr1 e9, pr2 e9⟩, ⟨by rw [ht]; exact hP, va_K.moved hW.alike hK, hD⟩⟩, hS.F ht⟩) hS.2.2 dX11_needle_64
      · have hf := it_f hf c6
        refine lv_aload_n hx hb dX11_needle_32 rfl (lv_at hl 0 rfl) ?_
        refine lv_iload_n hx hb dX11_needle_33 rfl (lv_at hl 3 rfl) ?_
        refine lv_iconst (v := (-1 : Int32)) hx hb dX11_needle_34 (by decide) ?_
        obtain ⟨o7, go7, hf⟩ := bd_s hf
        refine rs_Vv (As := [.int x3, .int (-1 : Int32)]) (rest := []) ⟨hx, hb, hml, hown, hts⟩ (c_X11_seekWays l D K F hMo H.size sMo x3 (-1 : Int32) o7 go7) (cwV 2 hts (gcV_X11_seekWays (mB57 _ (List.mem_of_getElem? (i := 5) rfl))) rfl rfl rfl hdV_X11_seekWays ⟨Nat.le_of_ble_eq_true rfl, Nat.le_of_ble_eq_true rfl⟩) hK hP hD hS hA (va_recv hK hP (ci := 10) (q0 := 0) rfl o_Mo) rfl hl.1 rfl (Nat.le_of_ble_eq_true rfl) dX11_needle_35 ⟨Nat.zero_le _, Nat.zero_le _⟩ (fun H locs hP hD hS => ?_)
        have hP : va_P D vwCl (wMo K hMo o7) H := hP
        have hD : va_D A (wMo K hMo o7) := hD
        refine lv_aload_n hx hb dX11_needle_38 rfl (lv_at hl 0 rfl) ?_
        refine va_get (D := D) (ci := 10) (v := .int (o7.1 36)) (C := RX11) (T := TX11) (N := 41) hx hb hts iX11 hown hK hP 0 o_Mo rfl 36 (by decide) (htl _ (mB57 _ (List.mem_of_getElem? (i := 4) rfl))) (fun _ h9 => h9) rfl dX11_needle_39 ?_
        refine lv_if_le (tgt := 57) hx hb dX11_needle_42 (by decide) (fun c8 => ?_) (fun c8 => ?_)
        · have hf := it_t hf c8
          exact w57 (f_X11_needle_22 F p1 n) ih x2 x3 o7 H locs ls hf hP hD hS (lv_sub hl [0, 1, 2, 3] rfl)
        · have hf := it_f hf c8
          refine lv_iload_n hx hb dX11_needle_45 rfl (lv_at hl 2 rfl) ?_
          refine lv_bipush (v := (-2 : Int32)) hx hb dX11_needle_46 (by decide) ?_
          refine lv_icmp_eq (tgt := 55) hx hb dX11_needle_48 (by decide) (fun c9 => ?_) (fun c9 => ?_)
          · have hf := it_t hf c9
            exact w55 (f_X11_needle_22 F p1 n) ih x3 o7 H locs ls hf hP hD hS (lv_sub hl [0, 1, 3] rfl)
          · have hf := it_f hf c9
            refine lv_iload_n hx hb dX11_needle_51 rfl (lv_at hl 1 rfl) ?_
            refine lv_if_eq (tgt := 57) hx hb dX11_needle_52 (by decide) (fun c10 => ?_) (fun c10 => ?_)
            · have hf := it_t hf c10
              exact w57 (f_X11_needle_22 F p1 n) ih x2 x3 o7 H locs ls hf hP hD hS (lv_sub hl [0, 1, 2, 3] rfl)
            · have hf := it_f hf c10
              exact w55 (f_X11_needle_22 F p1 n) ih x3 o7 H locs ls hf hP hD hS (lv_sub hl [0, 1, 3] rfl)
  have hen : entryFrame m args 4 = entryFrame m (([.ref (hMo 99), .int p1] : List Value).toArray) 4 := by rw [hargs]
  have hl := lv_entry ([.ref (hMo 99), .int p1]) (n := 4) (Nat.le_of_ble_eq_true rfl)
  rw [hen, lg_entry_eq]
  generalize (lg_sl ([.ref (hMo 99), .int p1]) ++ List.replicate (4 - (lg_sl ([.ref (hMo 99), .int p1])).length) Slot.unset).toArray = ls at hl ⊢
  have hl : lv_has ls 4 [(0, .ref (hMo 99)), (1, .int p1)] := hl
  unfold f_X11_needle at hf
  obtain ⟨H, hHe⟩ : ∃ z, z = s.heap := ⟨_, rfl⟩
  obtain ⟨locs, hLe⟩ : ∃ z : List Loc, z = [] := ⟨_, rfl⟩
  rw [← hLe]
  have hS : va_S A s.heap H locs := by rw [hHe, hLe]; exact hS
  have hP : va_P D vwCl (wMo K hMo sMo) H := by rw [hHe]; exact hP
  have hgo : W p l e (headSpec wz_X11_needle r_X11_needle).room s m args below meth c H locs 0 0 Q (F0 m 0 ls []) := by
    refine lv_aload_n hx hb dX11_needle_0 rfl (lv_at hl 0 rfl) ?_
    obtain ⟨o1, go1, hf⟩ := bd_s hf
    refine rs_Vv (As := []) (rest := []) ⟨hx, hb, hml, hown, hts⟩ (c_X11_good l D K F hMo H.size sMo o1 go1) (cwV 0 hts (gcV_X11_good (mB18 _ (List.mem_of_getElem? (i := 7) rfl))) rfl rfl rfl hdV_X11_good ⟨Nat.le_of_ble_eq_true rfl, Nat.le_of_ble_eq_true rfl⟩) hK hP hD hS hA (va_recv hK hP (ci := 10) (q0 := 0) rfl o_Mo) rfl hl.1 rfl (Nat.le_of_ble_eq_true rfl) dX11_needle_1 ⟨Nat.zero_le _, Nat.zero_le _⟩ (fun H locs hP hD hS => ?_)
    have hP : va_P D vwCl (wMo K hMo o1) H := hP
    have hD : va_D A (wMo K hMo o1) := hD
    refine lv_aload_n hx hb dX11_needle_4 rfl (lv_at hl 0 rfl) ?_
    refine va_get (D := D) (ci := 10) (v := .int (o1.1 14)) (C := RX11) (T := TX11) (N := 41) hx hb hts iX11 hown hK hP 0 o_Mo rfl 14 (by decide) (htl _ (mB18 _ (List.mem_of_getElem? (i := 4) rfl))) (fun _ h9 => h9) rfl dX11_needle_5 ?_
    refine lv_if_ne (tgt := 17) hx hb dX11_needle_8 (by decide) (fun c2 => ?_) (fun c2 => ?_)
    · have hf := it_f hf c2
      refine lv_bipush (v := (-2 : Int32)) hx hb dX11_needle_17 (by decide) ?_
      refine lv_istore_n (lv' := [(2, .int (-2 : Int32)), (0, .ref (hMo 99)), (1, .int p1)]) hx hb dX11_needle_19 rfl hl (by decide) rfl (fun ls hl => ?_)
      refine lv_iconst (v := (0 : Int32)) hx hb dX11_needle_20 (by decide) ?_
      refine lv_istore_n (lv' := [(3, .int (0 : Int32)), (2, .int (-2 : Int32)), (0, .ref (hMo 99)), (1, .int p1)]) hx hb dX11_needle_21 rfl hl (by decide) rfl (fun ls hl => ?_)
      exact w22 F (-2 : Int32) (0 : Int32) o1 H locs ls hf hP hD hS (lv_sub hl [2, 3, 1, 0] rfl)
    · have hf := it_t hf c2
      refine lv_aload_n hx hb dX11_needle_11 rfl (lv_at hl 0 rfl) ?_
      refine lv_iconst (v := (1 : Int32)) hx hb dX11_needle_12 (by decide) ?_
      obtain ⟨o3, go3, hf⟩ := bd_s hf
      refine rs_Vi (As := [.int (1 : Int32)]) (rest := []) ⟨hx, hb, hml, hown, hts⟩ (c_X11_no l D K F hMo H.size o1 (1 : Int32) o3 go3) (cwV 1 hts (gcV_X11_no (mB18 _ (List.mem_of_getElem? (i := 15) rfl))) rfl rfl rfl hdV_X11_no ⟨Nat.le_of_ble_eq_true rfl, Nat.le_of_ble_eq_true rfl⟩) hK hP hD hS hA (va_recv hK hP (ci := 10) (q0 := 0) rfl o_Mo) rfl hl.1 rfl (Nat.le_of_ble_eq_true rfl) dX11_needle_13 ⟨Nat.zero_le _, Nat.zero_le _⟩ (fun H locs hP hD hS => ?_)
      have hP : va_P D vwCl (wMo K hMo o3.2) H := hP
      have hD : va_D A (wMo K hMo o3.2) := hD
      have e9 := Option.some.inj hf
      rw [hQ]
      exact W.iret (v := o3.1) hx hb hr (fun t ht hW => ⟨⟨o3.1, o3.2, rfl, ⟨pr1 e9, pr2 e9⟩, ⟨by rw [ht]; exact hP, va_K.moved hW.alike hK, hD⟩⟩, hS.F ht⟩) hS.2.2 dX11_needle_16
  rw [hHe] at hgo
  exact hgo

def wz_X11_runBy : List Cond := .code yX11_runBy cX11_runBy 8 (some .int) :: wsL_law
abbrev r_X11_runBy : Room := { frames := 4, cells := 0, slots := 0, locals := 94 }
set_option maxHeartbeats 4000000 in
set_option maxRecDepth 100000 in
theorem c_X11_runBy (l : Launch) (D : va_G) (K : Nat → ClassId) (F : Nat) (hMo : Nat → Nat) (sz : Nat) (sMo : MS) (p1 : Int32) (p2 : Int32) (res : Int32 × MS) (hf : f_X11_runBy F p1 p2 sMo = some res) : Met l yX11_runBy wz_X11_runBy r_X11_runBy (va_Pc [.ref (hMo 99), .int p1, .int p2] (PW D K (wMo K hMo sMo) sz)) (va_Qi (fun r u => r = res.1 ∧ u = res.2) (fun u t => BW D K (va_A (wMo K hMo sMo) sz) (wMo K hMo u) t) (va_A (wMo K hMo sMo) sz)) 0 0 (va_A (wMo K hMo sMo) sz) := by
  refine Met.ofW (cc := cX11_runBy) (maxL := 8) (ret := (some .int)) (by decide) rfl ?_
  intro p e s m args below meth c s₁ B hml hv
  obtain ⟨hargs, hsz, hP, hK, hD0⟩ := hv
  have hx := B.exec
  have hb := B.bytes
  have hr := B.returns
  have hts := atoms_spec (ws := wz_X11_runBy) B.pre
  have htl : ∀ w ∈ wsL_law, w.before args s = true := fun w h => hts w (List.mem_cons_of_mem _ h)
  have hown : s.vm.findClass RX11 = some m.cls := findClass_of_methodNamed B.named
  have hlocks := B.notSynchronized
  subst hsz
  have hD := hD0.self (sz := s.heap.size)
  generalize hAe : va_A (wMo K hMo sMo) s.heap.size = A at hD ⊢
  have hA : ∀ q : Nat, s.heap.size ≤ q → A q := fun q h => by rw [← hAe]; exact Or.inr h
  have hS : va_S A s.heap s.heap [] := va_S.rf
  have iX11 : ∀ w ∈ wsX110, w ∈ wz_X11_runBy := fun w h => List.mem_cons_of_mem _ (inlX11 w h)
  suffices hgo : ∀ Q : State → Prop, Q = MQ below (va_Qi (fun r u => r = res.1 ∧ u = res.2) (fun u t => BW D K A (wMo K hMo u) t) A) args s 0 0 A → W p l e (headSpec wz_X11_runBy r_X11_runBy).room s m args below meth c s.heap [] 0 0 Q (entryFrame m args 8) from hgo _ rfl
  intro Q hQ
  have w83 : ∀ (k18 : Int32 → Int32 → Int32 → MS → Option (Int32 × MS)), (∀ (x3 : Int32), ∀ (x4 : Int32), ∀ (x5 : Int32), ∀ (sMo : MS), ∀ (H : Heap) (locs : List Loc) (ls : Array Slot), k18 x3 x4 x5 sMo = some res → va_P D vwCl (wMo K hMo sMo) H → va_D A (wMo K hMo sMo) → va_S A s.heap H locs → lv_has ls 8 [(0, .ref (hMo 99)), (1, .int p1), (3, .int x3), (4, .int x4), (5, .int x5)] → W p l e (headSpec wz_X11_runBy r_X11_runBy).room s m args below meth c H locs 0 0 Q (F0 m 18 ls [])) → ∀ (x3 : Int32), ∀ (x5 : Int32), ∀ (x7 : Int32), ∀ (y0 : Int32), ∀ (y1 : Int32), ∀ (sMo : MS), ∀ (H : Heap) (locs : List Loc) (ls : Array Slot), f_X11_runBy_83 F p1 p2 k18 x3 x5 x7 y0 y1 sMo = some res → va_P D vwCl (wMo K hMo sMo) H → va_D A (wMo K hMo sMo) → va_S A s.heap H locs → lv_has ls 8 [(0, .ref (hMo 99)), (1, .int p1), (3, .int x3), (5, .int x5), (7, .int x7)] → W p l e (headSpec wz_X11_runBy r_X11_runBy).room s m args below meth c H locs 0 0 Q (F0 m 83 ls [.int y1, .int y0]) := by
    intro k18 hk18 x3 x5 x7 y0 y1 sMo H locs ls hf hP hD hS hl
    unfold f_X11_runBy_83 at hf
    refine lv_iadd hx hb dX11_runBy_83 ?_
    refine lv_istore (lv' := [(4, .int (y0 + y1)), (0, .ref (hMo 99)), (1, .int p1), (3, .int x3), (5, .int x5), (7, .int x7)]) hx hb dX11_runBy_84 hl (by decide) rfl (fun ls hl => ?_)
    refine lv_iload_n hx hb dX11_runBy_86 rfl (lv_at hl 3 rfl) ?_
    refine lv_iload hx hb dX11_runBy_87 (lv_at hl 5 rfl) ?_
    refine lv_aload_n hx hb dX11_runBy_89 rfl (lv_at hl 1 rfl) ?_
    refine lv_iload hx hb dX11_runBy_90 (lv_at hl 4 rfl) ?_
    obtain ⟨o13, go13, hf⟩ := bd_s hf
    refine ro_Vi (As := [.int x5]) (rest := [.int x7, .int x3]) ⟨hx, hb, hml, hown, hts⟩ (c_X11_leg l D K F hMo sMo x5 o13 go13) (cwV 1 hts (gcV_X11_leg (mB27 _ (List.mem_of_getElem? (i := 15) rfl))) rfl rfl rfl hdV_X11_leg ⟨Nat.le_of_ble_eq_true rfl, Nat.le_of_ble_eq_true rfl⟩) hK hP hS hP (va_recv hK hP (ci := 10) (q0 := 0) rfl o_Mo) rfl hl.1 rfl (Nat.le_of_ble_eq_true rfl) dX11_runBy_92 ⟨Nat.zero_le _, Nat.zero_le _⟩ (fun H locs hP hS => ?_)
    refine lv_isub hx hb dX11_runBy_95 ?_
    refine lv_iadd hx hb dX11_runBy_96 ?_
    refine lv_istore_n (lv' := [(3, .int (x3 + (x7 - o13))), (4, .int (y0 + y1)), (0, .ref (hMo 99)), (1, .int p1), (5, .int x5), (7, .int x7)]) hx hb dX11_runBy_97 rfl hl (by decide) rfl (fun ls hl => ?_)
    refine lv_iload_n hx hb dX11_runBy_98 rfl (lv_at hl 0 rfl) ?_
    refine lv_if_ge (tgt := 105) hx hb dX11_runBy_99 (by decide) (fun c14 => ?_) (fun c14 => ?_)
    · have hf := it_t hf c14
      obtain ⟨v15, ev15⟩ : ∃ z : Int32, z = x5 + (1 : Int32) := ⟨_, rfl⟩
      have hf := lz_s hf v15 ev15
      refine lv_iinc (v := v15) (lv' := [(5, .int v15), (3, .int (x3 + (x7 - o13))), (4, .int (y0 + y1)), (0, .ref (hMo 99)), (1, .int p1), (7, .int x7)]) hx hb dX11_runBy_105 hl (k := 4) rfl (by rw [ev15]; rfl) (by decide) rfl (fun ls hl => ?_)
      refine lv_goto (tgt := 18) hx hb dX11_runBy_108 (by decide) ?_
      exact hk18 (x3 + (x7 - o13)) (y0 + y1) v15 sMo H locs ls hf hP hD hS (lv_sub hl [3, 4, 1, 2, 0] rfl)
    · have hf := it_f hf c14
      refine lv_bipush (v := (-2 : Int32)) hx hb dX11_runBy_102 (by decide) ?_
      have e9 := Option.some.inj hf
      rw [hQ]
      exact W.iret (v := (-2 : Int32)) hx hb hr (fun t ht hW => ⟨⟨(-2 : Int32), sMo, rfl, ⟨pr1 e9, pr2 e9⟩, ⟨by rw [ht]; exact hP, va_K.moved hW.alike hK, hD⟩⟩, hS.F ht⟩) hS.2.2 dX11_runBy_104
  have w58 : ∀ (k18 : Int32 → Int32 → Int32 → MS → Option (Int32 × MS)), (∀ (x3 : Int32), ∀ (x4 : Int32), ∀ (x5 : Int32), ∀ (sMo : MS), ∀ (H : Heap) (locs : List Loc) (ls : Array Slot), k18 x3 x4 x5 sMo = some res → va_P D vwCl (wMo K hMo sMo) H → va_D A (wMo K hMo sMo) → va_S A s.heap H locs → lv_has ls 8 [(0, .ref (hMo 99)), (1, .int p1), (3, .int x3), (4, .int x4), (5, .int x5)] → W p l e (headSpec wz_X11_runBy r_X11_runBy).room s m args below meth c H locs 0 0 Q (F0 m 18 ls [])) → ∀ (x3 : Int32), ∀ (x4 : Int32), ∀ (x5 : Int32), ∀ (x6 : Int32), ∀ (y0 : Int32), ∀ (sMo : MS), ∀ (H : Heap) (locs : List Loc) (ls : Array Slot), f_X11_runBy_58 F p1 p2 k18 x3 x4 x5 x6 y0 sMo = some res → va_P D vwCl (wMo K hMo sMo) H → va_D A (wMo K hMo sMo) → va_S A s.heap H locs → lv_has ls 8 [(0, .ref (hMo 99)), (1, .int p1), (3, .int x3), (4, .int x4), (5, .int x5), (6, .int x6)] → W p l e (headSpec wz_X11_runBy r_X11_runBy).room s m args below meth c H locs 0 0 Q (F0 m 58 ls [.int y0]) := by
    intro k18 hk18 x3 x4 x5 x6 y0 sMo H locs ls hf hP hD hS hl
    unfold f_X11_runBy_58 at hf
    refine lv_istore (lv' := [(7, .int y0), (0, .ref (hMo 99)), (1, .int p1), (3, .int x3), (4, .int x4), (5, .int x5), (6, .int x6)]) hx hb dX11_runBy_58 hl (by decide) rfl (fun ls hl => ?_)
    refine lv_iload hx hb dX11_runBy_60 (lv_at hl 4 rfl) ?_
    refine lv_iload hx hb dX11_runBy_62 (lv_at hl 0 rfl) ?_
    refine lv_if_ne (tgt := 71) hx hb dX11_runBy_64 (by decide) (fun c10 => ?_) (fun c10 => ?_)
    · have hf := it_f hf c10
      refine lv_iload hx hb dX11_runBy_71 (lv_at hl 0 rfl) ?_
      refine lv_iload hx hb dX11_runBy_73 (lv_at hl 6 rfl) ?_
      refine lv_imul hx hb dX11_runBy_75 ?_
      refine lv_aload_n hx hb dX11_runBy_76 rfl (lv_at hl 1 rfl) ?_
      refine va_get (D := D) (ci := 10) (v := .ref (hMo 15)) (C := RX11) (T := TX11) (N := 41) hx hb hts iX11 hown hK hP 0 o_Mo rfl 15 (by decide) (htl _ (mB6 _ (List.mem_of_getElem? (i := 3) rfl))) (fun _ h9 => h9) rfl dX11_runBy_77 ?_
      refine lv_iconst (v := (2 : Int32)) hx hb dX11_runBy_80 (by decide) ?_
      obtain ⟨g11, hf⟩ := gd_s hf
      refine va_iald hx hb hK hP 3 0 (f := sMo.2.2.1 15) a_Mo_15 rfl (vpb_in g11) dX11_runBy_81 ?_
      refine lv_topi (fun v12 ev12 => ?_)
      have hf := lz_s hf v12 ev12
      refine lv_iadd hx hb dX11_runBy_82 ?_
      exact w83 k18 hk18 x3 x5 y0 x4 ((y0 * x6) + v12) sMo H locs ls hf hP hD hS (lv_sub hl [1, 2, 3, 5, 0] rfl)
    · have hf := it_t hf c10
      refine lv_iconst (v := (0 : Int32)) hx hb dX11_runBy_67 (by decide) ?_
      refine lv_goto (tgt := 83) hx hb dX11_runBy_68 (by decide) ?_
      exact w83 k18 hk18 x3 x5 y0 x4 (0 : Int32) sMo H locs ls hf hP hD hS (lv_sub hl [1, 2, 3, 5, 0] rfl)
  have w18 : ∀ (n : Nat), ∀ (x3 : Int32), ∀ (x4 : Int32), ∀ (x5 : Int32), ∀ (sMo : MS), ∀ (H : Heap) (locs : List Loc) (ls : Array Slot), f_X11_runBy_18 F p1 p2 n x3 x4 x5 sMo = some res → va_P D vwCl (wMo K hMo sMo) H → va_D A (wMo K hMo sMo) → va_S A s.heap H locs → lv_has ls 8 [(0, .ref (hMo 99)), (1, .int p1), (3, .int x3), (4, .int x4), (5, .int x5)] → W p l e (headSpec wz_X11_runBy r_X11_runBy).room s m args below meth c H locs 0 0 Q (F0 m 18 ls []) := by
    intro n
    induction n with
    | zero =>
      intro x3 x4 x5 sMo H locs ls hf
      exact absurd (show none = some res from hf) (fun h => nomatch h)
    | succ n ih =>
      intro x3 x4 x5 sMo H locs ls hf hP hD hS hl
      rw [f_X11_runBy_18] at hf
      refine lv_iload hx hb dX11_runBy_18 (lv_at hl 4 rfl) ?_
      refine lv_aload_n hx hb dX11_runBy_20 rfl (lv_at hl 0 rfl) ?_
      obtain ⟨o4, go4, hf⟩ := bd_s hf
      refine ro_Vi (As := []) (rest := [.int x5]) ⟨hx, hb, hml, hown, hts⟩ (c_X11_lastStation l D K F hMo sMo o4 go4) (cwV 0 hts (gcV_X11_lastStation (mB28 _ (List.mem_of_getElem? (i := 11) rfl))) rfl rfl rfl hdV_X11_lastStation ⟨Nat.le_of_ble_eq_true rfl, Nat.le_of_ble_eq_true rfl⟩) hK hP hS hP (va_recv hK hP (ci := 10) (q0 := 0) rfl o_Mo) rfl hl.1 rfl (Nat.le_of_ble_eq_true rfl) dX11_runBy_21 ⟨Nat.zero_le _, Nat.zero_le _⟩ (fun H locs hP hS => ?_)
      refine lv_icmp_ge (tgt := 111) hx hb dX11_runBy_24 (by decide) (fun c5 => ?_) (fun c5 => ?_)
      · have hf := it_t hf c5
        refine lv_iload hx hb dX11_runBy_111 (lv_at hl 3 rfl) ?_
        have e9 := Option.some.inj hf
        rw [hQ]
        exact W.iret (v := x4) hx hb hr (fun t ht hW => ⟨⟨x4, sMo, rfl, ⟨pr1 e9, pr2 e9⟩, ⟨by rw [ht]; exact hP, va_K.moved hW.alike hK, hD⟩⟩, hS.F ht⟩) hS.2.2 dX11_runBy_113
      · have hf := it_f hf c5
        refine lv_aload_n hx hb dX11_runBy_27 rfl (lv_at hl 0 rfl) ?_
        refine lv_aload_n hx hb dX11_runBy_28 rfl (lv_at hl 0 rfl) ?_
        refine lv_iload hx hb dX11_runBy_29 (lv_at hl 4 rfl) ?_
        obtain ⟨o6, go6, hf⟩ := bd_s hf
        refine ro_Vi (As := [.int x5]) (rest := [.ref (hMo 99)]) ⟨hx, hb, hml, hown, hts⟩ (c_X11_placeOf l D K F hMo sMo x5 o6 go6) (cwV 1 hts (gcV_X11_placeOf (mB26 _ (List.mem_of_getElem? (i := 19) rfl))) rfl rfl rfl hdV_X11_placeOf ⟨Nat.le_of_ble_eq_true rfl, Nat.le_of_ble_eq_true rfl⟩) hK hP hS hP (va_recv hK hP (ci := 10) (q0 := 0) rfl o_Mo) rfl hl.1 rfl (Nat.le_of_ble_eq_true rfl) dX11_runBy_31 ⟨Nat.zero_le _, Nat.zero_le _⟩ (fun H locs hP hS => ?_)
        obtain ⟨o7, go7, hf⟩ := bd_s hf
        refine rs_Vi (As := [.int o6]) (rest := []) ⟨hx, hb, hml, hown, hts⟩ (c_X11_drawPrice l D K F hMo H.size sMo o6 o7 go7) (cwV 1 hts (gcV_X11_drawPrice (mB23 _ (List.mem_of_getElem? (i := 5) rfl))) rfl rfl rfl hdV_X11_drawPrice ⟨Nat.le_of_ble_eq_true rfl, Nat.le_of_ble_eq_true rfl⟩) hK hP hD hS hA (va_recv hK hP (ci := 10) (q0 := 0) rfl o_Mo) rfl hl.1 rfl (Nat.le_of_ble_eq_true rfl) dX11_runBy_34 ⟨Nat.zero_le _, Nat.zero_le _⟩ (fun H locs hP hD hS => ?_)
        have hP : va_P D vwCl (wMo K hMo o7.2) H := hP
        have hD : va_D A (wMo K hMo o7.2) := hD
        refine lv_istore (lv' := [(6, .int o7.1), (0, .ref (hMo 99)), (1, .int p1), (3, .int x3), (4, .int x4), (5, .int x5)]) hx hb dX11_runBy_37 hl (by decide) rfl (fun ls hl => ?_)
        refine lv_iload hx hb dX11_runBy_39 (lv_at hl 0 rfl) ?_
        refine lv_if_ne (tgt := 48) hx hb dX11_runBy_41 (by decide) (fun c8 => ?_) (fun c8 => ?_)
        · have hf := it_f hf c8
          refine lv_aload_n hx hb dX11_runBy_48 rfl (lv_at hl 1 rfl) ?_
          refine lv_iload_n hx hb dX11_runBy_49 rfl (lv_at hl 2 rfl) ?_
          refine lv_iload hx hb dX11_runBy_50 (lv_at hl 5 rfl) ?_
          refine lv_iload_n hx hb dX11_runBy_52 rfl (lv_at hl 3 rfl) ?_
          refine lv_iload hx hb dX11_runBy_53 (lv_at hl 0 rfl) ?_
          obtain ⟨o9, go9, hf⟩ := bd_s hf
          refine ro_Vi (As := [.int p1, .int x5, .int x3, .int o7.1]) (rest := []) ⟨hx, hb, hml, hown, hts⟩ (c_X11_bought l D K F hMo o7.2 p1 x5 x3 o7.1 o9 go9) (cwV 4 hts (gcV_X11_bought (mB40 _ (List.mem_of_getElem? (i := 16) rfl))) rfl rfl rfl hdV_X11_bought ⟨Nat.le_of_ble_eq_true rfl, Nat.le_of_ble_eq_true rfl⟩) hK hP hS hP (va_recv hK hP (ci := 10) (q0 := 0) rfl o_Mo) rfl hl.1 rfl (Nat.le_of_ble_eq_true rfl) dX11_runBy_55 ⟨Nat.zero_le _, Nat.zero_le _⟩ (fun H locs hP hS => ?_)
          exact w58 (f_X11_runBy_18 F p1 p2 n) ih x3 x4 x5 o7.1 o9 o7.2 H locs ls hf hP hD hS (lv_sub hl [1, 2, 3, 4, 5, 0] rfl)
        · have hf := it_t hf c8
          refine lv_iconst (v := (0 : Int32)) hx hb dX11_runBy_44 (by decide) ?_
          refine lv_goto (tgt := 58) hx hb dX11_runBy_45 (by decide) ?_
          exact w58 (f_X11_runBy_18 F p1 p2 n) ih x3 x4 x5 o7.1 (0 : Int32) o7.2 H locs ls hf hP hD hS (lv_sub hl [1, 2, 3, 4, 5, 0] rfl)
  have hen : entryFrame m args 8 = entryFrame m (([.ref (hMo 99), .int p1, .int p2] : List Value).toArray) 8 := by rw [hargs]
  have hl := lv_entry ([.ref (hMo 99), .int p1, .int p2]) (n := 8) (Nat.le_of_ble_eq_true rfl)
  rw [hen, lg_entry_eq]
  generalize (lg_sl ([.ref (hMo 99), .int p1, .int p2]) ++ List.replicate (8 - (lg_sl ([.ref (hMo 99), .int p1, .int p2])).length) Slot.unset).toArray = ls at hl ⊢
  have hl : lv_has ls 8 [(0, .ref (hMo 99)), (1, .int p1), (2, .int p2)] := hl
  unfold f_X11_runBy at hf
  obtain ⟨H, hHe⟩ : ∃ z, z = s.heap := ⟨_, rfl⟩
  obtain ⟨locs, hLe⟩ : ∃ z : List Loc, z = [] := ⟨_, rfl⟩
  rw [← hLe]
  have hS : va_S A s.heap H locs := by rw [hHe, hLe]; exact hS
  have hP : va_P D vwCl (wMo K hMo sMo) H := by rw [hHe]; exact hP
  have hgo : W p l e (headSpec wz_X11_runBy r_X11_runBy).room s m args below meth c H locs 0 0 Q (F0 m 0 ls []) := by
    refine lv_aload_n hx hb dX11_runBy_0 rfl (lv_at hl 0 rfl) ?_
    refine lv_iload_n hx hb dX11_runBy_1 rfl (lv_at hl 2 rfl) ?_
    refine va_put (D := D) (ci := 10) (v := .int p2) (ty := .int) (C := RX11) (T := TX11) (N := 41) hx hb hts iX11 tyX11 tyX11_ok nmX11 hown hK hP hD hS 0 o_Mo rfl 40 (by decide) (htl _ (mB23 _ (List.mem_of_getElem? (i := 4) rfl))) (fun _ h9 => h9) rfl (by decide +kernel) rfl rfl (Nat.le_of_ble_eq_true rfl) dX11_runBy_2 (fun H locs hP hD hS => ?_)
    have hP := cvP si_Mo_40 hP
    have hD := cvD si_Mo_40 hD
    obtain ⟨s1, es1⟩ : ∃ z, z = sI sMo 40 p2 := ⟨_, rfl⟩
    have hP : va_P D vwCl (wMo K hMo s1) H := by rw [es1]; exact hP
    have hD : va_D A (wMo K hMo s1) := by rw [es1]; exact hD
    have hf := lz_s hf s1 es1
    refine lv_aload_n hx hb dX11_runBy_5 rfl (lv_at hl 0 rfl) ?_
    refine va_get (D := D) (ci := 10) (v := .ref (hMo 15)) (C := RX11) (T := TX11) (N := 41) hx hb hts iX11 hown hK hP 0 o_Mo rfl 15 (by decide) (htl _ (mB6 _ (List.mem_of_getElem? (i := 3) rfl))) (fun _ h9 => h9) rfl dX11_runBy_6 ?_
    refine lv_iconst (v := (1 : Int32)) hx hb dX11_runBy_9 (by decide) ?_
    obtain ⟨g2, hf⟩ := gd_s hf
    refine va_iald hx hb hK hP 3 0 (f := s1.2.2.1 15) a_Mo_15 rfl (vpb_in g2) dX11_runBy_10 ?_
    refine lv_topi (fun v3 ev3 => ?_)
    have hf := lz_s hf v3 ev3
    refine lv_istore_n (lv' := [(3, .int v3), (0, .ref (hMo 99)), (1, .int p1), (2, .int p2)]) hx hb dX11_runBy_11 rfl hl (by decide) rfl (fun ls hl => ?_)
    refine lv_iconst (v := (0 : Int32)) hx hb dX11_runBy_12 (by decide) ?_
    refine lv_istore (lv' := [(4, .int (0 : Int32)), (3, .int v3), (0, .ref (hMo 99)), (1, .int p1), (2, .int p2)]) hx hb dX11_runBy_13 hl (by decide) rfl (fun ls hl => ?_)
    refine lv_iconst (v := (0 : Int32)) hx hb dX11_runBy_15 (by decide) ?_
    refine lv_istore (lv' := [(5, .int (0 : Int32)), (4, .int (0 : Int32)), (3, .int v3), (0, .ref (hMo 99)), (1, .int p1), (2, .int p2)]) hx hb dX11_runBy_16 hl (by decide) rfl (fun ls hl => ?_)
    exact w18 F v3 (0 : Int32) (0 : Int32) s1 H locs ls hf hP hD hS (lv_sub hl [3, 4, 2, 1, 0] rfl)
  rw [hHe] at hgo
  exact hgo

theorem gcV_X11_runBy {T0 : Cond} {own : String} {i : Nat} (h : Cond.methodLink own i yX11_runBy ∈ wsL_law) : GoodIn (T0 :: wsL_law) (wsV own i RX11 yX11_runBy wz_X11_runBy) := gV h (mB60 _ (List.mem_of_getElem? (i := 23) rfl)) (mB61 _ (List.mem_of_getElem? (i := 0) rfl)) (mB1 _ (List.mem_of_getElem? (i := 5) rfl)) (mB61 _ (List.mem_of_getElem? (i := 1) rfl))
theorem hdV_X11_runBy : yX11_runBy.cls = RX11 ∧ yX11_runBy.cls ≠ "java/lang/invoke/MethodHandle" ∧ yX11_runBy.cls ≠ "java/lang/invoke/VarHandle" ∧ (parseMethodDescriptor yX11_runBy.desc).map (fun d => d.parameters.length) = some 2 := by decide +kernel
def wz_X11_run : List Cond := .code yX11_run cX11_run 3 (some .int) :: wsL_law
abbrev r_X11_run : Room := { frames := 5, cells := 0, slots := 0, locals := 121 }
set_option maxHeartbeats 4000000 in
set_option maxRecDepth 100000 in
theorem c_X11_run (l : Launch) (D : va_G) (K : Nat → ClassId) (F : Nat) (hMo : Nat → Nat) (sz : Nat) (sMo : MS) (p1 : Int32) (p2 : Int32) (res : Int32 × MS) (hf : f_X11_run F p1 p2 sMo = some res) : Met l yX11_run wz_X11_run r_X11_run (va_Pc [.ref (hMo 99), .int p1, .int p2] (PW D K (wMo K hMo sMo) sz)) (va_Qi (fun r u => r = res.1 ∧ u = res.2) (fun u t => BW D K (va_A (wMo K hMo sMo) sz) (wMo K hMo u) t) (va_A (wMo K hMo sMo) sz)) 0 0 (va_A (wMo K hMo sMo) sz) := by
  refine Met.ofW (cc := cX11_run) (maxL := 3) (ret := (some .int)) (by decide) rfl ?_
  intro p e s m args below meth c s₁ B hml hv
  obtain ⟨hargs, hsz, hP, hK, hD0⟩ := hv
  have hx := B.exec
  have hb := B.bytes
  have hr := B.returns
  have hts := atoms_spec (ws := wz_X11_run) B.pre
  have htl : ∀ w ∈ wsL_law, w.before args s = true := fun w h => hts w (List.mem_cons_of_mem _ h)
  have hown : s.vm.findClass RX11 = some m.cls := findClass_of_methodNamed B.named
  have hlocks := B.notSynchronized
  subst hsz
  have hD := hD0.self (sz := s.heap.size)
  generalize hAe : va_A (wMo K hMo sMo) s.heap.size = A at hD ⊢
  have hA : ∀ q : Nat, s.heap.size ≤ q → A q := fun q h => by rw [← hAe]; exact Or.inr h
  have hS : va_S A s.heap s.heap [] := va_S.rf
  suffices hgo : ∀ Q : State → Prop, Q = MQ below (va_Qi (fun r u => r = res.1 ∧ u = res.2) (fun u t => BW D K A (wMo K hMo u) t) A) args s 0 0 A → W p l e (headSpec wz_X11_run r_X11_run).room s m args below meth c s.heap [] 0 0 Q (entryFrame m args 3) from hgo _ rfl
  intro Q hQ
  have hen : entryFrame m args 3 = entryFrame m (([.ref (hMo 99), .int p1, .int p2] : List Value).toArray) 3 := by rw [hargs]
  have hl := lv_entry ([.ref (hMo 99), .int p1, .int p2]) (n := 3) (Nat.le_of_ble_eq_true rfl)
  rw [hen, lg_entry_eq]
  generalize (lg_sl ([.ref (hMo 99), .int p1, .int p2]) ++ List.replicate (3 - (lg_sl ([.ref (hMo 99), .int p1, .int p2])).length) Slot.unset).toArray = ls at hl ⊢
  have hl : lv_has ls 3 [(0, .ref (hMo 99)), (1, .int p1), (2, .int p2)] := hl
  unfold f_X11_run at hf
  obtain ⟨H, hHe⟩ : ∃ z, z = s.heap := ⟨_, rfl⟩
  obtain ⟨locs, hLe⟩ : ∃ z : List Loc, z = [] := ⟨_, rfl⟩
  rw [← hLe]
  have hS : va_S A s.heap H locs := by rw [hHe, hLe]; exact hS
  have hP : va_P D vwCl (wMo K hMo sMo) H := by rw [hHe]; exact hP
  have hgo : W p l e (headSpec wz_X11_run r_X11_run).room s m args below meth c H locs 0 0 Q (F0 m 0 ls []) := by
    refine lv_aload_n hx hb dX11_run_0 rfl (lv_at hl 0 rfl) ?_
    obtain ⟨o1, go1, hf⟩ := bd_s hf
    refine rs_Vv (As := []) (rest := []) ⟨hx, hb, hml, hown, hts⟩ (c_X11_good l D K F hMo H.size sMo o1 go1) (cwV 0 hts (gcV_X11_good (mB18 _ (List.mem_of_getElem? (i := 7) rfl))) rfl rfl rfl hdV_X11_good ⟨Nat.le_of_ble_eq_true rfl, Nat.le_of_ble_eq_true rfl⟩) hK hP hD hS hA (va_recv hK hP (ci := 10) (q0 := 0) rfl o_Mo) rfl hl.1 rfl (Nat.le_of_ble_eq_true rfl) dX11_run_1 ⟨Nat.zero_le _, Nat.zero_le _⟩ (fun H locs hP hD hS => ?_)
    have hP : va_P D vwCl (wMo K hMo o1) H := hP
    have hD : va_D A (wMo K hMo o1) := hD
    refine lv_aload_n hx hb dX11_run_4 rfl (lv_at hl 0 rfl) ?_
    refine lv_iload_n hx hb dX11_run_5 rfl (lv_at hl 1 rfl) ?_
    obtain ⟨o2, go2, hf⟩ := bd_s hf
    refine ro_Vi (As := [.int p1]) (rest := []) ⟨hx, hb, hml, hown, hts⟩ (c_X11_isRule l D K F hMo o1 p1 o2 go2) (cwV 1 hts (gcV_X11_isRule (mB40 _ (List.mem_of_getElem? (i := 8) rfl))) rfl rfl rfl hdV_X11_isRule ⟨Nat.le_of_ble_eq_true rfl, Nat.le_of_ble_eq_true rfl⟩) hK hP hS hP (va_recv hK hP (ci := 10) (q0 := 0) rfl o_Mo) rfl hl.1 rfl (Nat.le_of_ble_eq_true rfl) dX11_run_6 ⟨Nat.zero_le _, Nat.zero_le _⟩ (fun H locs hP hS => ?_)
    refine lv_if_ne (tgt := 18) hx hb dX11_run_9 (by decide) (fun c3 => ?_) (fun c3 => ?_)
    · have hf := it_f hf c3
      refine lv_iload_n hx hb dX11_run_18 rfl (lv_at hl 2 rfl) ?_
      refine lv_iconst (v := (0 : Int32)) hx hb dX11_run_19 (by decide) ?_
      refine lv_ldcw (v := (65536 : Int32)) hx hb hown (htl _ (mB60 _ (List.mem_of_getElem? (i := 21) rfl))) dX11_run_20 ?_
      obtain ⟨o4, go4, hf⟩ := bd_s hf
      refine ro_Si (As := [.int p2, .int (0 : Int32), .int (65536 : Int32)]) (rest := []) ⟨hx, hb, hml, hown, hts⟩ (c_X11_in l D K F p2 (0 : Int32) (65536 : Int32) o4 go4) (va_cwS 3 hts (gcS_X11_in (mB18 _ (List.mem_of_getElem? (i := 12) rfl))) rfl rfl rfl hdS_X11_in ⟨Nat.le_of_ble_eq_true rfl, Nat.le_of_ble_eq_true rfl⟩) hK hP hS va_Pnil rfl hl.1 rfl (Nat.le_of_ble_eq_true rfl) dX11_run_23 ⟨Nat.zero_le _, Nat.zero_le _⟩ (fun H locs hP hS => ?_)
      refine lv_if_eq (tgt := 38) hx hb dX11_run_26 (by decide) (fun c5 => ?_) (fun c5 => ?_)
      · have hf := it_t hf c5
        refine lv_aload_n hx hb dX11_run_38 rfl (lv_at hl 0 rfl) ?_
        refine lv_iconst (v := (2 : Int32)) hx hb dX11_run_39 (by decide) ?_
        obtain ⟨o6, go6, hf⟩ := bd_s hf
        refine rs_Vi (As := [.int (2 : Int32)]) (rest := []) ⟨hx, hb, hml, hown, hts⟩ (c_X11_no l D K F hMo H.size o1 (2 : Int32) o6 go6) (cwV 1 hts (gcV_X11_no (mB18 _ (List.mem_of_getElem? (i := 15) rfl))) rfl rfl rfl hdV_X11_no ⟨Nat.le_of_ble_eq_true rfl, Nat.le_of_ble_eq_true rfl⟩) hK hP hD hS hA (va_recv hK hP (ci := 10) (q0 := 0) rfl o_Mo) rfl hl.1 rfl (Nat.le_of_ble_eq_true rfl) dX11_run_40 ⟨Nat.zero_le _, Nat.zero_le _⟩ (fun H locs hP hD hS => ?_)
        have hP : va_P D vwCl (wMo K hMo o6.2) H := hP
        have hD : va_D A (wMo K hMo o6.2) := hD
        have e9 := Option.some.inj hf
        rw [hQ]
        exact W.iret (v := o6.1) hx hb hr (fun t ht hW => ⟨⟨o6.1, o6.2, rfl, ⟨pr1 e9, pr2 e9⟩, ⟨by rw [ht]; exact hP, va_K.moved hW.alike hK, hD⟩⟩, hS.F ht⟩) hS.2.2 dX11_run_43
      · have hf := it_f hf c5
        refine lv_aload_n hx hb dX11_run_29 rfl (lv_at hl 0 rfl) ?_
        refine lv_iload_n hx hb dX11_run_30 rfl (lv_at hl 1 rfl) ?_
        refine lv_iload_n hx hb dX11_run_31 rfl (lv_at hl 2 rfl) ?_
        obtain ⟨o7, go7, hf⟩ := bd_s hf
        refine rs_Vi (As := [.int p1, .int p2]) (rest := []) ⟨hx, hb, hml, hown, hts⟩ (c_X11_runBy l D K F hMo H.size o1 p1 p2 o7 go7) (cwV 2 hts (gcV_X11_runBy (mB60 _ (List.mem_of_getElem? (i := 22) rfl))) rfl rfl rfl hdV_X11_runBy ⟨Nat.le_of_ble_eq_true rfl, Nat.le_of_ble_eq_true rfl⟩) hK hP hD hS hA (va_recv hK hP (ci := 10) (q0 := 0) rfl o_Mo) rfl hl.1 rfl (Nat.le_of_ble_eq_true rfl) dX11_run_32 ⟨Nat.zero_le _, Nat.zero_le _⟩ (fun H locs hP hD hS => ?_)
        have hP : va_P D vwCl (wMo K hMo o7.2) H := hP
        have hD : va_D A (wMo K hMo o7.2) := hD
        refine lv_goto (tgt := 43) hx hb dX11_run_35 (by decide) ?_
        have e9 := Option.some.inj hf
        rw [hQ]
        exact W.iret (v := o7.1) hx hb hr (fun t ht hW => ⟨⟨o7.1, o7.2, rfl, ⟨pr1 e9, pr2 e9⟩, ⟨by rw [ht]; exact hP, va_K.moved hW.alike hK, hD⟩⟩, hS.F ht⟩) hS.2.2 dX11_run_43
    · have hf := it_t hf c3
      refine lv_aload_n hx hb dX11_run_12 rfl (lv_at hl 0 rfl) ?_
      refine lv_iconst (v := (1 : Int32)) hx hb dX11_run_13 (by decide) ?_
      obtain ⟨o8, go8, hf⟩ := bd_s hf
      refine rs_Vi (As := [.int (1 : Int32)]) (rest := []) ⟨hx, hb, hml, hown, hts⟩ (c_X11_no l D K F hMo H.size o1 (1 : Int32) o8 go8) (cwV 1 hts (gcV_X11_no (mB18 _ (List.mem_of_getElem? (i := 15) rfl))) rfl rfl rfl hdV_X11_no ⟨Nat.le_of_ble_eq_true rfl, Nat.le_of_ble_eq_true rfl⟩) hK hP hD hS hA (va_recv hK hP (ci := 10) (q0 := 0) rfl o_Mo) rfl hl.1 rfl (Nat.le_of_ble_eq_true rfl) dX11_run_14 ⟨Nat.zero_le _, Nat.zero_le _⟩ (fun H locs hP hD hS => ?_)
      have hP : va_P D vwCl (wMo K hMo o8.2) H := hP
      have hD : va_D A (wMo K hMo o8.2) := hD
      have e9 := Option.some.inj hf
      rw [hQ]
      exact W.iret (v := o8.1) hx hb hr (fun t ht hW => ⟨⟨o8.1, o8.2, rfl, ⟨pr1 e9, pr2 e9⟩, ⟨by rw [ht]; exact hP, va_K.moved hW.alike hK, hD⟩⟩, hS.F ht⟩) hS.2.2 dX11_run_17
  rw [hHe] at hgo
  exact hgo

def wz_X11_through : List Cond := .code yX11_through cX11_through 6 (some .int) :: wsL_law
abbrev r_X11_through : Room := { frames := 5, cells := 0, slots := 0, locals := 121 }
set_option maxHeartbeats 4000000 in
set_option maxRecDepth 100000 in
theorem c_X11_through (l : Launch) (D : va_G) (K : Nat → ClassId) (F : Nat) (hMo : Nat → Nat) (sz : Nat) (sMo : MS) (p1 : Int32) (p2 : Int32) (p3 : Int32) (res : Int32 × MS) (hf : f_X11_through F p1 p2 p3 sMo = some res) : Met l yX11_through wz_X11_through r_X11_through (va_Pc [.ref (hMo 99), .int p1, .int p2, .int p3] (PW D K (wMo K hMo sMo) sz)) (va_Qi (fun r u => r = res.1 ∧ u = res.2) (fun u t => BW D K (va_A (wMo K hMo sMo) sz) (wMo K hMo u) t) (va_A (wMo K hMo sMo) sz)) 0 0 (va_A (wMo K hMo sMo) sz) := by
  refine Met.ofW (cc := cX11_through) (maxL := 6) (ret := (some .int)) (by decide) rfl ?_
  intro p e s m args below meth c s₁ B hml hv
  obtain ⟨hargs, hsz, hP, hK, hD0⟩ := hv
  have hx := B.exec
  have hb := B.bytes
  have hr := B.returns
  have hts := atoms_spec (ws := wz_X11_through) B.pre
  have htl : ∀ w ∈ wsL_law, w.before args s = true := fun w h => hts w (List.mem_cons_of_mem _ h)
  have hown : s.vm.findClass RX11 = some m.cls := findClass_of_methodNamed B.named
  have hlocks := B.notSynchronized
  subst hsz
  have hD := hD0.self (sz := s.heap.size)
  generalize hAe : va_A (wMo K hMo sMo) s.heap.size = A at hD ⊢
  have hA : ∀ q : Nat, s.heap.size ≤ q → A q := fun q h => by rw [← hAe]; exact Or.inr h
  have hS : va_S A s.heap s.heap [] := va_S.rf
  suffices hgo : ∀ Q : State → Prop, Q = MQ below (va_Qi (fun r u => r = res.1 ∧ u = res.2) (fun u t => BW D K A (wMo K hMo u) t) A) args s 0 0 A → W p l e (headSpec wz_X11_through r_X11_through).room s m args below meth c s.heap [] 0 0 Q (entryFrame m args 6) from hgo _ rfl
  intro Q hQ
  have w39 : ∀ (sMo : MS), ∀ (H : Heap) (locs : List Loc) (ls : Array Slot), f_X11_through_39 F p1 p2 p3 sMo = some res → va_P D vwCl (wMo K hMo sMo) H → va_D A (wMo K hMo sMo) → va_S A s.heap H locs → lv_has ls 6 [(0, .ref (hMo 99))] → W p l e (headSpec wz_X11_through r_X11_through).room s m args below meth c H locs 0 0 Q (F0 m 39 ls []) := by
    intro sMo H locs ls hf hP hD hS hl
    unfold f_X11_through_39 at hf
    refine lv_aload_n hx hb dX11_through_39 rfl (lv_at hl 0 rfl) ?_
    refine lv_iconst (v := (2 : Int32)) hx hb dX11_through_40 (by decide) ?_
    obtain ⟨o14, go14, hf⟩ := bd_s hf
    refine rs_Vi (As := [.int (2 : Int32)]) (rest := []) ⟨hx, hb, hml, hown, hts⟩ (c_X11_no l D K F hMo H.size sMo (2 : Int32) o14 go14) (cwV 1 hts (gcV_X11_no (mB18 _ (List.mem_of_getElem? (i := 15) rfl))) rfl rfl rfl hdV_X11_no ⟨Nat.le_of_ble_eq_true rfl, Nat.le_of_ble_eq_true rfl⟩) hK hP hD hS hA (va_recv hK hP (ci := 10) (q0 := 0) rfl o_Mo) rfl hl.1 rfl (Nat.le_of_ble_eq_true rfl) dX11_through_41 ⟨Nat.zero_le _, Nat.zero_le _⟩ (fun H locs hP hD hS => ?_)
    have hP : va_P D vwCl (wMo K hMo o14.2) H := hP
    have hD : va_D A (wMo K hMo o14.2) := hD
    have e9 := Option.some.inj hf
    rw [hQ]
    exact W.iret (v := o14.1) hx hb hr (fun t ht hW => ⟨⟨o14.1, o14.2, rfl, ⟨pr1 e9, pr2 e9⟩, ⟨by rw [ht]; exact hP, va_K.moved hW.alike hK, hD⟩⟩, hS.F ht⟩) hS.2.2 dX11_through_44
  have w82 : ∀ (k51 : Int32 → Int32 → MS → Option (Int32 × MS)), (∀ (x4 : Int32), ∀ (x5 : Int32), ∀ (sMo : MS), ∀ (H : Heap) (locs : List Loc) (ls : Array Slot), k51 x4 x5 sMo = some res → va_P D vwCl (wMo K hMo sMo) H → va_D A (wMo K hMo sMo) → va_S A s.heap H locs → lv_has ls 6 [(0, .ref (hMo 99)), (1, .int p1), (2, .int p2), (3, .int p3), (4, .int x4), (5, .int x5)] → W p l e (headSpec wz_X11_through r_X11_through).room s m args below meth c H locs 0 0 Q (F0 m 51 ls [])) → ∀ (x5 : Int32), ∀ (y0 : Int32), ∀ (y1 : Int32), ∀ (sMo : MS), ∀ (H : Heap) (locs : List Loc) (ls : Array Slot), f_X11_through_82 F p1 p2 p3 k51 x5 y0 y1 sMo = some res → va_P D vwCl (wMo K hMo sMo) H → va_D A (wMo K hMo sMo) → va_S A s.heap H locs → lv_has ls 6 [(0, .ref (hMo 99)), (1, .int p1), (2, .int p2), (3, .int p3), (5, .int x5)] → W p l e (headSpec wz_X11_through r_X11_through).room s m args below meth c H locs 0 0 Q (F0 m 82 ls [.int y1, .int y0]) := by
    intro k51 hk51 x5 y0 y1 sMo H locs ls hf hP hD hS hl
    unfold f_X11_through_82 at hf
    refine lv_iadd hx hb dX11_through_82 ?_
    refine lv_istore (lv' := [(4, .int (y0 + y1)), (0, .ref (hMo 99)), (1, .int p1), (2, .int p2), (3, .int p3), (5, .int x5)]) hx hb dX11_through_83 hl (by decide) rfl (fun ls hl => ?_)
    obtain ⟨v13, ev13⟩ : ∃ z : Int32, z = x5 + (1 : Int32) := ⟨_, rfl⟩
    have hf := lz_s hf v13 ev13
    refine lv_iinc (v := v13) (lv' := [(5, .int v13), (4, .int (y0 + y1)), (0, .ref (hMo 99)), (1, .int p1), (2, .int p2), (3, .int p3)]) hx hb dX11_through_85 hl (k := 5) rfl (by rw [ev13]; rfl) (by decide) rfl (fun ls hl => ?_)
    refine lv_goto (tgt := 51) hx hb dX11_through_88 (by decide) ?_
    exact hk51 (y0 + y1) v13 sMo H locs ls hf hP hD hS (lv_sub hl [2, 3, 4, 5, 1, 0] rfl)
  have w51 : ∀ (n : Nat), ∀ (x4 : Int32), ∀ (x5 : Int32), ∀ (sMo : MS), ∀ (H : Heap) (locs : List Loc) (ls : Array Slot), f_X11_through_51 F p1 p2 p3 n x4 x5 sMo = some res → va_P D vwCl (wMo K hMo sMo) H → va_D A (wMo K hMo sMo) → va_S A s.heap H locs → lv_has ls 6 [(0, .ref (hMo 99)), (1, .int p1), (2, .int p2), (3, .int p3), (4, .int x4), (5, .int x5)] → W p l e (headSpec wz_X11_through r_X11_through).room s m args below meth c H locs 0 0 Q (F0 m 51 ls []) := by
    intro n
    induction n with
    | zero =>
      intro x4 x5 sMo H locs ls hf
      exact absurd (show none = some res from hf) (fun h => nomatch h)
    | succ n ih =>
      intro x4 x5 sMo H locs ls hf hP hD hS hl
      rw [f_X11_through_51] at hf
      refine lv_iload hx hb dX11_through_51 (lv_at hl 5 rfl) ?_
      refine lv_iload_n hx hb dX11_through_53 rfl (lv_at hl 3 rfl) ?_
      refine lv_icmp_ge (tgt := 91) hx hb dX11_through_54 (by decide) (fun c9 => ?_) (fun c9 => ?_)
      · have hf := it_t hf c9
        refine lv_iload hx hb dX11_through_91 (lv_at hl 4 rfl) ?_
        have e9 := Option.some.inj hf
        rw [hQ]
        exact W.iret (v := x4) hx hb hr (fun t ht hW => ⟨⟨x4, sMo, rfl, ⟨pr1 e9, pr2 e9⟩, ⟨by rw [ht]; exact hP, va_K.moved hW.alike hK, hD⟩⟩, hS.F ht⟩) hS.2.2 dX11_through_93
      · have hf := it_f hf c9
        refine lv_iload hx hb dX11_through_57 (lv_at hl 4 rfl) ?_
        refine lv_aload_n hx hb dX11_through_59 rfl (lv_at hl 0 rfl) ?_
        refine lv_iload_n hx hb dX11_through_60 rfl (lv_at hl 1 rfl) ?_
        refine lv_iload_n hx hb dX11_through_61 rfl (lv_at hl 2 rfl) ?_
        refine lv_iload hx hb dX11_through_62 (lv_at hl 5 rfl) ?_
        refine lv_iadd hx hb dX11_through_64 ?_
        refine lv_ldcw (v := (65537 : Int32)) hx hb hown (htl _ (mB23 _ (List.mem_of_getElem? (i := 16) rfl))) dX11_through_65 ?_
        refine lv_irem hx hb dX11_through_68 (by decide) ?_
        refine lv_topi (fun v10 ev10 => ?_)
        have hf := lz_s hf v10 ev10
        obtain ⟨o11, go11, hf⟩ := bd_s hf
        refine rs_Vi (As := [.int p1, .int v10]) (rest := [.int x4]) ⟨hx, hb, hml, hown, hts⟩ (c_X11_runBy l D K F hMo H.size sMo p1 v10 o11 go11) (cwV 2 hts (gcV_X11_runBy (mB60 _ (List.mem_of_getElem? (i := 22) rfl))) rfl rfl rfl hdV_X11_runBy ⟨Nat.le_of_ble_eq_true rfl, Nat.le_of_ble_eq_true rfl⟩) hK hP hD hS hA (va_recv hK hP (ci := 10) (q0 := 0) rfl o_Mo) rfl hl.1 rfl (Nat.le_of_ble_eq_true rfl) dX11_through_69 ⟨Nat.zero_le _, Nat.zero_le _⟩ (fun H locs hP hD hS => ?_)
        have hP : va_P D vwCl (wMo K hMo o11.2) H := hP
        have hD : va_D A (wMo K hMo o11.2) := hD
        refine lv_bipush (v := (-2 : Int32)) hx hb dX11_through_72 (by decide) ?_
        refine lv_icmp_ne (tgt := 81) hx hb dX11_through_74 (by decide) (fun c12 => ?_) (fun c12 => ?_)
        · have hf := it_f hf c12
          refine lv_iconst (v := (1 : Int32)) hx hb dX11_through_81 (by decide) ?_
          exact w82 (f_X11_through_51 F p1 p2 p3 n) ih x5 x4 (1 : Int32) o11.2 H locs ls hf hP hD hS (lv_sub hl [0, 1, 2, 3, 5] rfl)
        · have hf := it_t hf c12
          refine lv_iconst (v := (0 : Int32)) hx hb dX11_through_77 (by decide) ?_
          refine lv_goto (tgt := 82) hx hb dX11_through_78 (by decide) ?_
          exact w82 (f_X11_through_51 F p1 p2 p3 n) ih x5 x4 (0 : Int32) o11.2 H locs ls hf hP hD hS (lv_sub hl [0, 1, 2, 3, 5] rfl)
  have hen : entryFrame m args 6 = entryFrame m (([.ref (hMo 99), .int p1, .int p2, .int p3] : List Value).toArray) 6 := by rw [hargs]
  have hl := lv_entry ([.ref (hMo 99), .int p1, .int p2, .int p3]) (n := 6) (Nat.le_of_ble_eq_true rfl)
  rw [hen, lg_entry_eq]
  generalize (lg_sl ([.ref (hMo 99), .int p1, .int p2, .int p3]) ++ List.replicate (6 - (lg_sl ([.ref (hMo 99), .int p1, .int p2, .int p3])).length) Slot.unset).toArray = ls at hl ⊢
  have hl : lv_has ls 6 [(0, .ref (hMo 99)), (1, .int p1), (2, .int p2), (3, .int p3)] := hl
  unfold f_X11_through at hf
  obtain ⟨H, hHe⟩ : ∃ z, z = s.heap := ⟨_, rfl⟩
  obtain ⟨locs, hLe⟩ : ∃ z : List Loc, z = [] := ⟨_, rfl⟩
  rw [← hLe]
  have hS : va_S A s.heap H locs := by rw [hHe, hLe]; exact hS
  have hP : va_P D vwCl (wMo K hMo sMo) H := by rw [hHe]; exact hP
  have hgo : W p l e (headSpec wz_X11_through r_X11_through).room s m args below meth c H locs 0 0 Q (F0 m 0 ls []) := by
    refine lv_aload_n hx hb dX11_through_0 rfl (lv_at hl 0 rfl) ?_
    obtain ⟨o1, go1, hf⟩ := bd_s hf
    refine rs_Vv (As := []) (rest := []) ⟨hx, hb, hml, hown, hts⟩ (c_X11_good l D K F hMo H.size sMo o1 go1) (cwV 0 hts (gcV_X11_good (mB18 _ (List.mem_of_getElem? (i := 7) rfl))) rfl rfl rfl hdV_X11_good ⟨Nat.le_of_ble_eq_true rfl, Nat.le_of_ble_eq_true rfl⟩) hK hP hD hS hA (va_recv hK hP (ci := 10) (q0 := 0) rfl o_Mo) rfl hl.1 rfl (Nat.le_of_ble_eq_true rfl) dX11_through_1 ⟨Nat.zero_le _, Nat.zero_le _⟩ (fun H locs hP hD hS => ?_)
    have hP : va_P D vwCl (wMo K hMo o1) H := hP
    have hD : va_D A (wMo K hMo o1) := hD
    refine lv_aload_n hx hb dX11_through_4 rfl (lv_at hl 0 rfl) ?_
    refine lv_iload_n hx hb dX11_through_5 rfl (lv_at hl 1 rfl) ?_
    obtain ⟨o2, go2, hf⟩ := bd_s hf
    refine ro_Vi (As := [.int p1]) (rest := []) ⟨hx, hb, hml, hown, hts⟩ (c_X11_isRule l D K F hMo o1 p1 o2 go2) (cwV 1 hts (gcV_X11_isRule (mB40 _ (List.mem_of_getElem? (i := 8) rfl))) rfl rfl rfl hdV_X11_isRule ⟨Nat.le_of_ble_eq_true rfl, Nat.le_of_ble_eq_true rfl⟩) hK hP hS hP (va_recv hK hP (ci := 10) (q0 := 0) rfl o_Mo) rfl hl.1 rfl (Nat.le_of_ble_eq_true rfl) dX11_through_6 ⟨Nat.zero_le _, Nat.zero_le _⟩ (fun H locs hP hS => ?_)
    refine lv_if_ne (tgt := 18) hx hb dX11_through_9 (by decide) (fun c3 => ?_) (fun c3 => ?_)
    · have hf := it_f hf c3
      refine lv_iload_n hx hb dX11_through_18 rfl (lv_at hl 2 rfl) ?_
      refine lv_iconst (v := (0 : Int32)) hx hb dX11_through_19 (by decide) ?_
      refine lv_ldcw (v := (65536 : Int32)) hx hb hown (htl _ (mB60 _ (List.mem_of_getElem? (i := 21) rfl))) dX11_through_20 ?_
      obtain ⟨o4, go4, hf⟩ := bd_s hf
      refine ro_Si (As := [.int p2, .int (0 : Int32), .int (65536 : Int32)]) (rest := []) ⟨hx, hb, hml, hown, hts⟩ (c_X11_in l D K F p2 (0 : Int32) (65536 : Int32) o4 go4) (va_cwS 3 hts (gcS_X11_in (mB18 _ (List.mem_of_getElem? (i := 12) rfl))) rfl rfl rfl hdS_X11_in ⟨Nat.le_of_ble_eq_true rfl, Nat.le_of_ble_eq_true rfl⟩) hK hP hS va_Pnil rfl hl.1 rfl (Nat.le_of_ble_eq_true rfl) dX11_through_23 ⟨Nat.zero_le _, Nat.zero_le _⟩ (fun H locs hP hS => ?_)
      refine lv_if_eq (tgt := 39) hx hb dX11_through_26 (by decide) (fun c5 => ?_) (fun c5 => ?_)
      · have hf := it_t hf c5
        exact w39 o1 H locs ls hf hP hD hS (lv_sub hl [0] rfl)
      · have hf := it_f hf c5
        refine lv_iload_n hx hb dX11_through_29 rfl (lv_at hl 3 rfl) ?_
        refine lv_iconst (v := (1 : Int32)) hx hb dX11_through_30 (by decide) ?_
        refine lv_bipush (v := (50 : Int32)) hx hb dX11_through_31 (by decide) ?_
        obtain ⟨o6, go6, hf⟩ := bd_s hf
        refine ro_Si (As := [.int p3, .int (1 : Int32), .int (50 : Int32)]) (rest := []) ⟨hx, hb, hml, hown, hts⟩ (c_X11_in l D K F p3 (1 : Int32) (50 : Int32) o6 go6) (va_cwS 3 hts (gcS_X11_in (mB18 _ (List.mem_of_getElem? (i := 12) rfl))) rfl rfl rfl hdS_X11_in ⟨Nat.le_of_ble_eq_true rfl, Nat.le_of_ble_eq_true rfl⟩) hK hP hS va_Pnil rfl hl.1 rfl (Nat.le_of_ble_eq_true rfl) dX11_through_33 ⟨Nat.zero_le _, Nat.zero_le _⟩ (fun H locs hP hS => ?_)
        refine lv_if_ne (tgt := 45) hx hb dX11_through_36 (by decide) (fun c7 => ?_) (fun c7 => ?_)
        · have hf := it_f hf c7
          refine lv_iconst (v := (0 : Int32)) hx hb dX11_through_45 (by decide) ?_
          refine lv_istore (lv' := [(4, .int (0 : Int32)), (0, .ref (hMo 99)), (1, .int p1), (2, .int p2), (3, .int p3)]) hx hb dX11_through_46 hl (by decide) rfl (fun ls hl => ?_)
          refine lv_iconst (v := (0 : Int32)) hx hb dX11_through_48 (by decide) ?_
          refine lv_istore (lv' := [(5, .int (0 : Int32)), (4, .int (0 : Int32)), (0, .ref (hMo 99)), (1, .int p1), (2, .int p2), (3, .int p3)]) hx hb dX11_through_49 hl (by decide) rfl (fun ls hl => ?_)
          exact w51 F (0 : Int32) (0 : Int32) o1 H locs ls hf hP hD hS (lv_sub hl [2, 3, 4, 5, 1, 0] rfl)
        · have hf := it_t hf c7
          exact w39 o1 H locs ls hf hP hD hS (lv_sub hl [0] rfl)
    · have hf := it_t hf c3
      refine lv_aload_n hx hb dX11_through_12 rfl (lv_at hl 0 rfl) ?_
      refine lv_iconst (v := (1 : Int32)) hx hb dX11_through_13 (by decide) ?_
      obtain ⟨o8, go8, hf⟩ := bd_s hf
      refine rs_Vi (As := [.int (1 : Int32)]) (rest := []) ⟨hx, hb, hml, hown, hts⟩ (c_X11_no l D K F hMo H.size o1 (1 : Int32) o8 go8) (cwV 1 hts (gcV_X11_no (mB18 _ (List.mem_of_getElem? (i := 15) rfl))) rfl rfl rfl hdV_X11_no ⟨Nat.le_of_ble_eq_true rfl, Nat.le_of_ble_eq_true rfl⟩) hK hP hD hS hA (va_recv hK hP (ci := 10) (q0 := 0) rfl o_Mo) rfl hl.1 rfl (Nat.le_of_ble_eq_true rfl) dX11_through_14 ⟨Nat.zero_le _, Nat.zero_le _⟩ (fun H locs hP hD hS => ?_)
      have hP : va_P D vwCl (wMo K hMo o8.2) H := hP
      have hD : va_D A (wMo K hMo o8.2) := hD
      have e9 := Option.some.inj hf
      rw [hQ]
      exact W.iret (v := o8.1) hx hb hr (fun t ht hW => ⟨⟨o8.1, o8.2, rfl, ⟨pr1 e9, pr2 e9⟩, ⟨by rw [ht]; exact hP, va_K.moved hW.alike hK, hD⟩⟩, hS.F ht⟩) hS.2.2 dX11_through_17
  rw [hHe] at hgo
  exact hgo

def wz_X11_beats : List Cond := .code yX11_beats cX11_beats 9 (some .int) :: wsL_law
abbrev r_X11_beats : Room := { frames := 5, cells := 0, slots := 0, locals := 121 }
set_option maxHeartbeats 4000000 in
set_option maxRecDepth 100000 in
theorem c_X11_beats (l : Launch) (D : va_G) (K : Nat → ClassId) (F : Nat) (hMo : Nat → Nat) (sz : Nat) (sMo : MS) (p1 : Int32) (p2 : Int32) (p3 : Int32) (p4 : Int32) (res : Int32 × MS) (hf : f_X11_beats F p1 p2 p3 p4 sMo = some res) : Met l yX11_beats wz_X11_beats r_X11_beats (va_Pc [.ref (hMo 99), .int p1, .int p2, .int p3, .int p4] (PW D K (wMo K hMo sMo) sz)) (va_Qi (fun r u => r = res.1 ∧ u = res.2) (fun u t => BW D K (va_A (wMo K hMo sMo) sz) (wMo K hMo u) t) (va_A (wMo K hMo sMo) sz)) 0 0 (va_A (wMo K hMo sMo) sz) := by
  refine Met.ofW (cc := cX11_beats) (maxL := 9) (ret := (some .int)) (by decide) rfl ?_
  intro p e s m args below meth c s₁ B hml hv
  obtain ⟨hargs, hsz, hP, hK, hD0⟩ := hv
  have hx := B.exec
  have hb := B.bytes
  have hr := B.returns
  have hts := atoms_spec (ws := wz_X11_beats) B.pre
  have htl : ∀ w ∈ wsL_law, w.before args s = true := fun w h => hts w (List.mem_cons_of_mem _ h)
  have hown : s.vm.findClass RX11 = some m.cls := findClass_of_methodNamed B.named
  have hlocks := B.notSynchronized
  subst hsz
  have hD := hD0.self (sz := s.heap.size)
  generalize hAe : va_A (wMo K hMo sMo) s.heap.size = A at hD ⊢
  have hA : ∀ q : Nat, s.heap.size ≤ q → A q := fun q h => by rw [← hAe]; exact Or.inr h
  have hS : va_S A s.heap s.heap [] := va_S.rf
  suffices hgo : ∀ Q : State → Prop, Q = MQ below (va_Qi (fun r u => r = res.1 ∧ u = res.2) (fun u t => BW D K A (wMo K hMo u) t) A) args s 0 0 A → W p l e (headSpec wz_X11_beats r_X11_beats).room s m args below meth c s.heap [] 0 0 Q (entryFrame m args 9) from hgo _ rfl
  intro Q hQ
  have w20 : ∀ (sMo : MS), ∀ (H : Heap) (locs : List Loc) (ls : Array Slot), f_X11_beats_20 F p1 p2 p3 p4 sMo = some res → va_P D vwCl (wMo K hMo sMo) H → va_D A (wMo K hMo sMo) → va_S A s.heap H locs → lv_has ls 9 [(0, .ref (hMo 99))] → W p l e (headSpec wz_X11_beats r_X11_beats).room s m args below meth c H locs 0 0 Q (F0 m 20 ls []) := by
    intro sMo H locs ls hf hP hD hS hl
    unfold f_X11_beats_20 at hf
    refine lv_aload_n hx hb dX11_beats_20 rfl (lv_at hl 0 rfl) ?_
    refine lv_iconst (v := (1 : Int32)) hx hb dX11_beats_21 (by decide) ?_
    obtain ⟨o20, go20, hf⟩ := bd_s hf
    refine rs_Vi (As := [.int (1 : Int32)]) (rest := []) ⟨hx, hb, hml, hown, hts⟩ (c_X11_no l D K F hMo H.size sMo (1 : Int32) o20 go20) (cwV 1 hts (gcV_X11_no (mB18 _ (List.mem_of_getElem? (i := 15) rfl))) rfl rfl rfl hdV_X11_no ⟨Nat.le_of_ble_eq_true rfl, Nat.le_of_ble_eq_true rfl⟩) hK hP hD hS hA (va_recv hK hP (ci := 10) (q0 := 0) rfl o_Mo) rfl hl.1 rfl (Nat.le_of_ble_eq_true rfl) dX11_beats_22 ⟨Nat.zero_le _, Nat.zero_le _⟩ (fun H locs hP hD hS => ?_)
    have hP : va_P D vwCl (wMo K hMo o20.2) H := hP
    have hD : va_D A (wMo K hMo o20.2) := hD
    have e9 := Option.some.inj hf
    rw [hQ]
    exact W.iret (v := o20.1) hx hb hr (fun t ht hW => ⟨⟨o20.1, o20.2, rfl, ⟨pr1 e9, pr2 e9⟩, ⟨by rw [ht]; exact hP, va_K.moved hW.alike hK, hD⟩⟩, hS.F ht⟩) hS.2.2 dX11_beats_25
  have w48 : ∀ (sMo : MS), ∀ (H : Heap) (locs : List Loc) (ls : Array Slot), f_X11_beats_48 F p1 p2 p3 p4 sMo = some res → va_P D vwCl (wMo K hMo sMo) H → va_D A (wMo K hMo sMo) → va_S A s.heap H locs → lv_has ls 9 [(0, .ref (hMo 99))] → W p l e (headSpec wz_X11_beats r_X11_beats).room s m args below meth c H locs 0 0 Q (F0 m 48 ls []) := by
    intro sMo H locs ls hf hP hD hS hl
    unfold f_X11_beats_48 at hf
    refine lv_aload_n hx hb dX11_beats_48 rfl (lv_at hl 0 rfl) ?_
    refine lv_iconst (v := (2 : Int32)) hx hb dX11_beats_49 (by decide) ?_
    obtain ⟨o19, go19, hf⟩ := bd_s hf
    refine rs_Vi (As := [.int (2 : Int32)]) (rest := []) ⟨hx, hb, hml, hown, hts⟩ (c_X11_no l D K F hMo H.size sMo (2 : Int32) o19 go19) (cwV 1 hts (gcV_X11_no (mB18 _ (List.mem_of_getElem? (i := 15) rfl))) rfl rfl rfl hdV_X11_no ⟨Nat.le_of_ble_eq_true rfl, Nat.le_of_ble_eq_true rfl⟩) hK hP hD hS hA (va_recv hK hP (ci := 10) (q0 := 0) rfl o_Mo) rfl hl.1 rfl (Nat.le_of_ble_eq_true rfl) dX11_beats_50 ⟨Nat.zero_le _, Nat.zero_le _⟩ (fun H locs hP hD hS => ?_)
    have hP : va_P D vwCl (wMo K hMo o19.2) H := hP
    have hD : va_D A (wMo K hMo o19.2) := hD
    have e9 := Option.some.inj hf
    rw [hQ]
    exact W.iret (v := o19.1) hx hb hr (fun t ht hW => ⟨⟨o19.1, o19.2, rfl, ⟨pr1 e9, pr2 e9⟩, ⟨by rw [ht]; exact hP, va_K.moved hW.alike hK, hD⟩⟩, hS.F ht⟩) hS.2.2 dX11_beats_53
  have w125 : ∀ (k60 : Int32 → Int32 → MS → Option (Int32 × MS)), (∀ (x5 : Int32), ∀ (x6 : Int32), ∀ (sMo : MS), ∀ (H : Heap) (locs : List Loc) (ls : Array Slot), k60 x5 x6 sMo = some res → va_P D vwCl (wMo K hMo sMo) H → va_D A (wMo K hMo sMo) → va_S A s.heap H locs → lv_has ls 9 [(0, .ref (hMo 99)), (1, .int p1), (2, .int p2), (3, .int p3), (4, .int p4), (5, .int x5), (6, .int x6)] → W p l e (headSpec wz_X11_beats r_X11_beats).room s m args below meth c H locs 0 0 Q (F0 m 60 ls [])) → ∀ (x6 : Int32), ∀ (y0 : Int32), ∀ (y1 : Int32), ∀ (sMo : MS), ∀ (H : Heap) (locs : List Loc) (ls : Array Slot), f_X11_beats_125 F p1 p2 p3 p4 k60 x6 y0 y1 sMo = some res → va_P D vwCl (wMo K hMo sMo) H → va_D A (wMo K hMo sMo) → va_S A s.heap H locs → lv_has ls 9 [(0, .ref (hMo 99)), (1, .int p1), (2, .int p2), (3, .int p3), (4, .int p4), (6, .int x6)] → W p l e (headSpec wz_X11_beats r_X11_beats).room s m args below meth c H locs 0 0 Q (F0 m 125 ls [.int y1, .int y0]) := by
    intro k60 hk60 x6 y0 y1 sMo H locs ls hf hP hD hS hl
    unfold f_X11_beats_125 at hf
    refine lv_iadd hx hb dX11_beats_125 ?_
    refine lv_istore (lv' := [(5, .int (y0 + y1)), (0, .ref (hMo 99)), (1, .int p1), (2, .int p2), (3, .int p3), (4, .int p4), (6, .int x6)]) hx hb dX11_beats_126 hl (by decide) rfl (fun ls hl => ?_)
    obtain ⟨v18, ev18⟩ : ∃ z : Int32, z = x6 + (1 : Int32) := ⟨_, rfl⟩
    have hf := lz_s hf v18 ev18
    refine lv_iinc (v := v18) (lv' := [(6, .int v18), (5, .int (y0 + y1)), (0, .ref (hMo 99)), (1, .int p1), (2, .int p2), (3, .int p3), (4, .int p4)]) hx hb dX11_beats_128 hl (k := 6) rfl (by rw [ev18]; rfl) (by decide) rfl (fun ls hl => ?_)
    refine lv_goto (tgt := 60) hx hb dX11_beats_131 (by decide) ?_
    exact hk60 (y0 + y1) v18 sMo H locs ls hf hP hD hS (lv_sub hl [2, 3, 4, 5, 6, 1, 0] rfl)
  have w124 : ∀ (k60 : Int32 → Int32 → MS → Option (Int32 × MS)), (∀ (x5 : Int32), ∀ (x6 : Int32), ∀ (sMo : MS), ∀ (H : Heap) (locs : List Loc) (ls : Array Slot), k60 x5 x6 sMo = some res → va_P D vwCl (wMo K hMo sMo) H → va_D A (wMo K hMo sMo) → va_S A s.heap H locs → lv_has ls 9 [(0, .ref (hMo 99)), (1, .int p1), (2, .int p2), (3, .int p3), (4, .int p4), (5, .int x5), (6, .int x6)] → W p l e (headSpec wz_X11_beats r_X11_beats).room s m args below meth c H locs 0 0 Q (F0 m 60 ls [])) → ∀ (x6 : Int32), ∀ (y0 : Int32), ∀ (sMo : MS), ∀ (H : Heap) (locs : List Loc) (ls : Array Slot), f_X11_beats_124 F p1 p2 p3 p4 k60 x6 y0 sMo = some res → va_P D vwCl (wMo K hMo sMo) H → va_D A (wMo K hMo sMo) → va_S A s.heap H locs → lv_has ls 9 [(0, .ref (hMo 99)), (1, .int p1), (2, .int p2), (3, .int p3), (4, .int p4), (6, .int x6)] → W p l e (headSpec wz_X11_beats r_X11_beats).room s m args below meth c H locs 0 0 Q (F0 m 124 ls [.int y0]) := by
    intro k60 hk60 x6 y0 sMo H locs ls hf hP hD hS hl
    unfold f_X11_beats_124 at hf
    refine lv_iconst (v := (0 : Int32)) hx hb dX11_beats_124 (by decide) ?_
    exact w125 k60 hk60 x6 y0 (0 : Int32) sMo H locs ls hf hP hD hS (lv_sub hl [0, 1, 2, 3, 4, 5] rfl)
  have w120 : ∀ (k60 : Int32 → Int32 → MS → Option (Int32 × MS)), (∀ (x5 : Int32), ∀ (x6 : Int32), ∀ (sMo : MS), ∀ (H : Heap) (locs : List Loc) (ls : Array Slot), k60 x5 x6 sMo = some res → va_P D vwCl (wMo K hMo sMo) H → va_D A (wMo K hMo sMo) → va_S A s.heap H locs → lv_has ls 9 [(0, .ref (hMo 99)), (1, .int p1), (2, .int p2), (3, .int p3), (4, .int p4), (5, .int x5), (6, .int x6)] → W p l e (headSpec wz_X11_beats r_X11_beats).room s m args below meth c H locs 0 0 Q (F0 m 60 ls [])) → ∀ (x6 : Int32), ∀ (y0 : Int32), ∀ (sMo : MS), ∀ (H : Heap) (locs : List Loc) (ls : Array Slot), f_X11_beats_120 F p1 p2 p3 p4 k60 x6 y0 sMo = some res → va_P D vwCl (wMo K hMo sMo) H → va_D A (wMo K hMo sMo) → va_S A s.heap H locs → lv_has ls 9 [(0, .ref (hMo 99)), (1, .int p1), (2, .int p2), (3, .int p3), (4, .int p4), (6, .int x6)] → W p l e (headSpec wz_X11_beats r_X11_beats).room s m args below meth c H locs 0 0 Q (F0 m 120 ls [.int y0]) := by
    intro k60 hk60 x6 y0 sMo H locs ls hf hP hD hS hl
    unfold f_X11_beats_120 at hf
    refine lv_iconst (v := (1 : Int32)) hx hb dX11_beats_120 (by decide) ?_
    refine lv_goto (tgt := 125) hx hb dX11_beats_121 (by decide) ?_
    exact w125 k60 hk60 x6 y0 (1 : Int32) sMo H locs ls hf hP hD hS (lv_sub hl [0, 1, 2, 3, 4, 5] rfl)
  have w60 : ∀ (n : Nat), ∀ (x5 : Int32), ∀ (x6 : Int32), ∀ (sMo : MS), ∀ (H : Heap) (locs : List Loc) (ls : Array Slot), f_X11_beats_60 F p1 p2 p3 p4 n x5 x6 sMo = some res → va_P D vwCl (wMo K hMo sMo) H → va_D A (wMo K hMo sMo) → va_S A s.heap H locs → lv_has ls 9 [(0, .ref (hMo 99)), (1, .int p1), (2, .int p2), (3, .int p3), (4, .int p4), (5, .int x5), (6, .int x6)] → W p l e (headSpec wz_X11_beats r_X11_beats).room s m args below meth c H locs 0 0 Q (F0 m 60 ls []) := by
    intro n
    induction n with
    | zero =>
      intro x5 x6 sMo H locs ls hf
      exact absurd (show none = some res from hf) (fun h => nomatch h)
    | succ n ih =>
      intro x5 x6 sMo H locs ls hf hP hD hS hl
      rw [f_X11_beats_60] at hf
      refine lv_iload hx hb dX11_beats_60 (lv_at hl 6 rfl) ?_
      refine lv_iload hx hb dX11_beats_62 (lv_at hl 4 rfl) ?_
      refine lv_icmp_ge (tgt := 134) hx hb dX11_beats_64 (by decide) (fun c10 => ?_) (fun c10 => ?_)
      · have hf := it_t hf c10
        refine lv_iload hx hb dX11_beats_134 (lv_at hl 5 rfl) ?_
        have e9 := Option.some.inj hf
        rw [hQ]
        exact W.iret (v := x5) hx hb hr (fun t ht hW => ⟨⟨x5, sMo, rfl, ⟨pr1 e9, pr2 e9⟩, ⟨by rw [ht]; exact hP, va_K.moved hW.alike hK, hD⟩⟩, hS.F ht⟩) hS.2.2 dX11_beats_136
      · have hf := it_f hf c10
        refine lv_aload_n hx hb dX11_beats_67 rfl (lv_at hl 0 rfl) ?_
        refine lv_iload_n hx hb dX11_beats_68 rfl (lv_at hl 1 rfl) ?_
        refine lv_iload_n hx hb dX11_beats_69 rfl (lv_at hl 3 rfl) ?_
        refine lv_iload hx hb dX11_beats_70 (lv_at hl 6 rfl) ?_
        refine lv_iadd hx hb dX11_beats_72 ?_
        refine lv_ldcw (v := (65537 : Int32)) hx hb hown (htl _ (mB23 _ (List.mem_of_getElem? (i := 16) rfl))) dX11_beats_73 ?_
        refine lv_irem hx hb dX11_beats_76 (by decide) ?_
        refine lv_topi (fun v11 ev11 => ?_)
        have hf := lz_s hf v11 ev11
        obtain ⟨o12, go12, hf⟩ := bd_s hf
        refine rs_Vi (As := [.int p1, .int v11]) (rest := []) ⟨hx, hb, hml, hown, hts⟩ (c_X11_runBy l D K F hMo H.size sMo p1 v11 o12 go12) (cwV 2 hts (gcV_X11_runBy (mB60 _ (List.mem_of_getElem? (i := 22) rfl))) rfl rfl rfl hdV_X11_runBy ⟨Nat.le_of_ble_eq_true rfl, Nat.le_of_ble_eq_true rfl⟩) hK hP hD hS hA (va_recv hK hP (ci := 10) (q0 := 0) rfl o_Mo) rfl hl.1 rfl (Nat.le_of_ble_eq_true rfl) dX11_beats_77 ⟨Nat.zero_le _, Nat.zero_le _⟩ (fun H locs hP hD hS => ?_)
        have hP : va_P D vwCl (wMo K hMo o12.2) H := hP
        have hD : va_D A (wMo K hMo o12.2) := hD
        refine lv_istore (lv' := [(7, .int o12.1), (0, .ref (hMo 99)), (1, .int p1), (2, .int p2), (3, .int p3), (4, .int p4), (5, .int x5), (6, .int x6)]) hx hb dX11_beats_80 hl (by decide) rfl (fun ls hl => ?_)
        refine lv_aload_n hx hb dX11_beats_82 rfl (lv_at hl 1 rfl) ?_
        refine lv_iload_n hx hb dX11_beats_83 rfl (lv_at hl 3 rfl) ?_
        refine lv_iload_n hx hb dX11_beats_84 rfl (lv_at hl 4 rfl) ?_
        refine lv_iload hx hb dX11_beats_85 (lv_at hl 7 rfl) ?_
        refine lv_iadd hx hb dX11_beats_87 ?_
        refine lv_ldcw (v := (65537 : Int32)) hx hb hown (htl _ (mB23 _ (List.mem_of_getElem? (i := 16) rfl))) dX11_beats_88 ?_
        refine lv_irem hx hb dX11_beats_91 (by decide) ?_
        refine lv_topi (fun v13 ev13 => ?_)
        have hf := lz_s hf v13 ev13
        obtain ⟨o14, go14, hf⟩ := bd_s hf
        refine rs_Vi (As := [.int p2, .int v13]) (rest := []) ⟨hx, hb, hml, hown, hts⟩ (c_X11_runBy l D K F hMo H.size o12.2 p2 v13 o14 go14) (cwV 2 hts (gcV_X11_runBy (mB60 _ (List.mem_of_getElem? (i := 22) rfl))) rfl rfl rfl hdV_X11_runBy ⟨Nat.le_of_ble_eq_true rfl, Nat.le_of_ble_eq_true rfl⟩) hK hP hD hS hA (va_recv hK hP (ci := 10) (q0 := 0) rfl o_Mo) rfl hl.1 rfl (Nat.le_of_ble_eq_true rfl) dX11_beats_92 ⟨Nat.zero_le _, Nat.zero_le _⟩ (fun H locs hP hD hS => ?_)
        have hP : va_P D vwCl (wMo K hMo o14.2) H := hP
        have hD : va_D A (wMo K hMo o14.2) := hD
        refine lv_istore (lv' := [(8, .int o14.1), (7, .int o12.1), (0, .ref (hMo 99)), (1, .int p1), (2, .int p2), (3, .int p3), (4, .int p4), (5, .int x5), (6, .int x6)]) hx hb dX11_beats_95 hl (by decide) rfl (fun ls hl => ?_)
        refine lv_iload hx hb dX11_beats_97 (lv_at hl 7 rfl) ?_
        refine lv_iload hx hb dX11_beats_99 (lv_at hl 1 rfl) ?_
        refine lv_bipush (v := (-2 : Int32)) hx hb dX11_beats_101 (by decide) ?_
        refine lv_icmp_eq (tgt := 124) hx hb dX11_beats_103 (by decide) (fun c15 => ?_) (fun c15 => ?_)
        · have hf := it_t hf c15
          exact w124 (f_X11_beats_60 F p1 p2 p3 p4 n) ih x6 x5 o14.2 H locs ls hf hP hD hS (lv_sub hl [2, 3, 4, 5, 6, 8] rfl)
        · have hf := it_f hf c15
          refine lv_iload hx hb dX11_beats_106 (lv_at hl 0 rfl) ?_
          refine lv_bipush (v := (-2 : Int32)) hx hb dX11_beats_108 (by decide) ?_
          refine lv_icmp_eq (tgt := 120) hx hb dX11_beats_110 (by decide) (fun c16 => ?_) (fun c16 => ?_)
          · have hf := it_t hf c16
            exact w120 (f_X11_beats_60 F p1 p2 p3 p4 n) ih x6 x5 o14.2 H locs ls hf hP hD hS (lv_sub hl [2, 3, 4, 5, 6, 8] rfl)
          · have hf := it_f hf c16
            refine lv_iload hx hb dX11_beats_113 (lv_at hl 1 rfl) ?_
            refine lv_iload hx hb dX11_beats_115 (lv_at hl 0 rfl) ?_
            refine lv_icmp_ge (tgt := 124) hx hb dX11_beats_117 (by decide) (fun c17 => ?_) (fun c17 => ?_)
            · have hf := it_t hf c17
              exact w124 (f_X11_beats_60 F p1 p2 p3 p4 n) ih x6 x5 o14.2 H locs ls hf hP hD hS (lv_sub hl [2, 3, 4, 5, 6, 8] rfl)
            · have hf := it_f hf c17
              exact w120 (f_X11_beats_60 F p1 p2 p3 p4 n) ih x6 x5 o14.2 H locs ls hf hP hD hS (lv_sub hl [2, 3, 4, 5, 6, 8] rfl)
  have hen : entryFrame m args 9 = entryFrame m (([.ref (hMo 99), .int p1, .int p2, .int p3, .int p4] : List Value).toArray) 9 := by rw [hargs]
  have hl := lv_entry ([.ref (hMo 99), .int p1, .int p2, .int p3, .int p4]) (n := 9) (Nat.le_of_ble_eq_true rfl)
  rw [hen, lg_entry_eq]
  generalize (lg_sl ([.ref (hMo 99), .int p1, .int p2, .int p3, .int p4]) ++ List.replicate (9 - (lg_sl ([.ref (hMo 99), .int p1, .int p2, .int p3, .int p4])).length) Slot.unset).toArray = ls at hl ⊢
  have hl : lv_has ls 9 [(0, .ref (hMo 99)), (1, .int p1), (2, .int p2), (3, .int p3), (4, .int p4)] := hl
  unfold f_X11_beats at hf
  obtain ⟨H, hHe⟩ : ∃ z, z = s.heap := ⟨_, rfl⟩
  obtain ⟨locs, hLe⟩ : ∃ z : List Loc, z = [] := ⟨_, rfl⟩
  rw [← hLe]
  have hS : va_S A s.heap H locs := by rw [hHe, hLe]; exact hS
  have hP : va_P D vwCl (wMo K hMo sMo) H := by rw [hHe]; exact hP
  have hgo : W p l e (headSpec wz_X11_beats r_X11_beats).room s m args below meth c H locs 0 0 Q (F0 m 0 ls []) := by
    refine lv_aload_n hx hb dX11_beats_0 rfl (lv_at hl 0 rfl) ?_
    obtain ⟨o1, go1, hf⟩ := bd_s hf
    refine rs_Vv (As := []) (rest := []) ⟨hx, hb, hml, hown, hts⟩ (c_X11_good l D K F hMo H.size sMo o1 go1) (cwV 0 hts (gcV_X11_good (mB18 _ (List.mem_of_getElem? (i := 7) rfl))) rfl rfl rfl hdV_X11_good ⟨Nat.le_of_ble_eq_true rfl, Nat.le_of_ble_eq_true rfl⟩) hK hP hD hS hA (va_recv hK hP (ci := 10) (q0 := 0) rfl o_Mo) rfl hl.1 rfl (Nat.le_of_ble_eq_true rfl) dX11_beats_1 ⟨Nat.zero_le _, Nat.zero_le _⟩ (fun H locs hP hD hS => ?_)
    have hP : va_P D vwCl (wMo K hMo o1) H := hP
    have hD : va_D A (wMo K hMo o1) := hD
    refine lv_aload_n hx hb dX11_beats_4 rfl (lv_at hl 0 rfl) ?_
    refine lv_iload_n hx hb dX11_beats_5 rfl (lv_at hl 1 rfl) ?_
    obtain ⟨o2, go2, hf⟩ := bd_s hf
    refine ro_Vi (As := [.int p1]) (rest := []) ⟨hx, hb, hml, hown, hts⟩ (c_X11_isRule l D K F hMo o1 p1 o2 go2) (cwV 1 hts (gcV_X11_isRule (mB40 _ (List.mem_of_getElem? (i := 8) rfl))) rfl rfl rfl hdV_X11_isRule ⟨Nat.le_of_ble_eq_true rfl, Nat.le_of_ble_eq_true rfl⟩) hK hP hS hP (va_recv hK hP (ci := 10) (q0 := 0) rfl o_Mo) rfl hl.1 rfl (Nat.le_of_ble_eq_true rfl) dX11_beats_6 ⟨Nat.zero_le _, Nat.zero_le _⟩ (fun H locs hP hS => ?_)
    refine lv_if_eq (tgt := 20) hx hb dX11_beats_9 (by decide) (fun c3 => ?_) (fun c3 => ?_)
    · have hf := it_t hf c3
      exact w20 o1 H locs ls hf hP hD hS (lv_sub hl [0] rfl)
    · have hf := it_f hf c3
      refine lv_aload_n hx hb dX11_beats_12 rfl (lv_at hl 0 rfl) ?_
      refine lv_iload_n hx hb dX11_beats_13 rfl (lv_at hl 2 rfl) ?_
      obtain ⟨o4, go4, hf⟩ := bd_s hf
      refine ro_Vi (As := [.int p2]) (rest := []) ⟨hx, hb, hml, hown, hts⟩ (c_X11_isRule l D K F hMo o1 p2 o4 go4) (cwV 1 hts (gcV_X11_isRule (mB40 _ (List.mem_of_getElem? (i := 8) rfl))) rfl rfl rfl hdV_X11_isRule ⟨Nat.le_of_ble_eq_true rfl, Nat.le_of_ble_eq_true rfl⟩) hK hP hS hP (va_recv hK hP (ci := 10) (q0 := 0) rfl o_Mo) rfl hl.1 rfl (Nat.le_of_ble_eq_true rfl) dX11_beats_14 ⟨Nat.zero_le _, Nat.zero_le _⟩ (fun H locs hP hS => ?_)
      refine lv_if_ne (tgt := 26) hx hb dX11_beats_17 (by decide) (fun c5 => ?_) (fun c5 => ?_)
      · have hf := it_f hf c5
        refine lv_iload_n hx hb dX11_beats_26 rfl (lv_at hl 3 rfl) ?_
        refine lv_iconst (v := (0 : Int32)) hx hb dX11_beats_27 (by decide) ?_
        refine lv_ldcw (v := (65536 : Int32)) hx hb hown (htl _ (mB60 _ (List.mem_of_getElem? (i := 21) rfl))) dX11_beats_28 ?_
        obtain ⟨o6, go6, hf⟩ := bd_s hf
        refine ro_Si (As := [.int p3, .int (0 : Int32), .int (65536 : Int32)]) (rest := []) ⟨hx, hb, hml, hown, hts⟩ (c_X11_in l D K F p3 (0 : Int32) (65536 : Int32) o6 go6) (va_cwS 3 hts (gcS_X11_in (mB18 _ (List.mem_of_getElem? (i := 12) rfl))) rfl rfl rfl hdS_X11_in ⟨Nat.le_of_ble_eq_true rfl, Nat.le_of_ble_eq_true rfl⟩) hK hP hS va_Pnil rfl hl.1 rfl (Nat.le_of_ble_eq_true rfl) dX11_beats_31 ⟨Nat.zero_le _, Nat.zero_le _⟩ (fun H locs hP hS => ?_)
        refine lv_if_eq (tgt := 48) hx hb dX11_beats_34 (by decide) (fun c7 => ?_) (fun c7 => ?_)
        · have hf := it_t hf c7
          exact w48 o1 H locs ls hf hP hD hS (lv_sub hl [0] rfl)
        · have hf := it_f hf c7
          refine lv_iload hx hb dX11_beats_37 (lv_at hl 4 rfl) ?_
          refine lv_iconst (v := (1 : Int32)) hx hb dX11_beats_39 (by decide) ?_
          refine lv_bipush (v := (50 : Int32)) hx hb dX11_beats_40 (by decide) ?_
          obtain ⟨o8, go8, hf⟩ := bd_s hf
          refine ro_Si (As := [.int p4, .int (1 : Int32), .int (50 : Int32)]) (rest := []) ⟨hx, hb, hml, hown, hts⟩ (c_X11_in l D K F p4 (1 : Int32) (50 : Int32) o8 go8) (va_cwS 3 hts (gcS_X11_in (mB18 _ (List.mem_of_getElem? (i := 12) rfl))) rfl rfl rfl hdS_X11_in ⟨Nat.le_of_ble_eq_true rfl, Nat.le_of_ble_eq_true rfl⟩) hK hP hS va_Pnil rfl hl.1 rfl (Nat.le_of_ble_eq_true rfl) dX11_beats_42 ⟨Nat.zero_le _, Nat.zero_le _⟩ (fun H locs hP hS => ?_)
          refine lv_if_ne (tgt := 54) hx hb dX11_beats_45 (by decide) (fun c9 => ?_) (fun c9 => ?_)
          · have hf := it_f hf c9
            refine lv_iconst (v := (0 : Int32)) hx hb dX11_beats_54 (by decide) ?_
            refine lv_istore (lv' := [(5, .int (0 : Int32)), (0, .ref (hMo 99)), (1, .int p1), (2, .int p2), (3, .int p3), (4, .int p4)]) hx hb dX11_beats_55 hl (by decide) rfl (fun ls hl => ?_)
            refine lv_iconst (v := (0 : Int32)) hx hb dX11_beats_57 (by decide) ?_
            refine lv_istore (lv' := [(6, .int (0 : Int32)), (5, .int (0 : Int32)), (0, .ref (hMo 99)), (1, .int p1), (2, .int p2), (3, .int p3), (4, .int p4)]) hx hb dX11_beats_58 hl (by decide) rfl (fun ls hl => ?_)
            exact w60 F (0 : Int32) (0 : Int32) o1 H locs ls hf hP hD hS (lv_sub hl [2, 3, 4, 5, 6, 1, 0] rfl)
          · have hf := it_t hf c9
            exact w48 o1 H locs ls hf hP hD hS (lv_sub hl [0] rfl)
      · have hf := it_t hf c5
        exact w20 o1 H locs ls hf hP hD hS (lv_sub hl [0] rfl)
  rw [hHe] at hgo
  exact hgo

def wz_X11_car : List Cond := .code yX11_car cX11_car 2 (some .int) :: wsL_law
abbrev r_X11_car : Room := { frames := 1, cells := 0, slots := 0, locals := 22 }
set_option maxHeartbeats 4000000 in
set_option maxRecDepth 100000 in
theorem c_X11_car (l : Launch) (D : va_G) (K : Nat → ClassId) (F : Nat) (hMo : Nat → Nat) (sz : Nat) (sMo : MS) (p1 : Int32) (res : Int32 × MS) (hf : f_X11_car F p1 sMo = some res) : Met l yX11_car wz_X11_car r_X11_car (va_Pc [.ref (hMo 99), .int p1] (PW D K (wMo K hMo sMo) sz)) (va_Qi (fun r u => r = res.1 ∧ u = res.2) (fun u t => BW D K (va_A (wMo K hMo sMo) sz) (wMo K hMo u) t) (va_A (wMo K hMo sMo) sz)) 0 0 (va_A (wMo K hMo sMo) sz) := by
  refine Met.ofW (cc := cX11_car) (maxL := 2) (ret := (some .int)) (by decide) rfl ?_
  intro p e s m args below meth c s₁ B hml hv
  obtain ⟨hargs, hsz, hP, hK, hD0⟩ := hv
  have hx := B.exec
  have hb := B.bytes
  have hr := B.returns
  have hts := atoms_spec (ws := wz_X11_car) B.pre
  have htl : ∀ w ∈ wsL_law, w.before args s = true := fun w h => hts w (List.mem_cons_of_mem _ h)
  have hown : s.vm.findClass RX11 = some m.cls := findClass_of_methodNamed B.named
  have hlocks := B.notSynchronized
  subst hsz
  have hD := hD0.self (sz := s.heap.size)
  generalize hAe : va_A (wMo K hMo sMo) s.heap.size = A at hD ⊢
  have hA : ∀ q : Nat, s.heap.size ≤ q → A q := fun q h => by rw [← hAe]; exact Or.inr h
  have hS : va_S A s.heap s.heap [] := va_S.rf
  have iX11 : ∀ w ∈ wsX110, w ∈ wz_X11_car := fun w h => List.mem_cons_of_mem _ (inlX11 w h)
  suffices hgo : ∀ Q : State → Prop, Q = MQ below (va_Qi (fun r u => r = res.1 ∧ u = res.2) (fun u t => BW D K A (wMo K hMo u) t) A) args s 0 0 A → W p l e (headSpec wz_X11_car r_X11_car).room s m args below meth c s.heap [] 0 0 Q (entryFrame m args 2) from hgo _ rfl
  intro Q hQ
  have w20 : ∀ (sMo : MS), ∀ (H : Heap) (locs : List Loc) (ls : Array Slot), f_X11_car_20 F p1 sMo = some res → va_P D vwCl (wMo K hMo sMo) H → va_D A (wMo K hMo sMo) → va_S A s.heap H locs → lv_has ls 2 [(0, .ref (hMo 99))] → W p l e (headSpec wz_X11_car r_X11_car).room s m args below meth c H locs 0 0 Q (F0 m 20 ls []) := by
    intro sMo H locs ls hf hP hD hS hl
    unfold f_X11_car_20 at hf
    refine lv_aload_n hx hb dX11_car_20 rfl (lv_at hl 0 rfl) ?_
    refine lv_iconst (v := (1 : Int32)) hx hb dX11_car_21 (by decide) ?_
    obtain ⟨o11, go11, hf⟩ := bd_s hf
    refine rs_Vi (As := [.int (1 : Int32)]) (rest := []) ⟨hx, hb, hml, hown, hts⟩ (c_X11_no l D K F hMo H.size sMo (1 : Int32) o11 go11) (cwV 1 hts (gcV_X11_no (mB18 _ (List.mem_of_getElem? (i := 15) rfl))) rfl rfl rfl hdV_X11_no ⟨Nat.le_of_ble_eq_true rfl, Nat.le_of_ble_eq_true rfl⟩) hK hP hD hS hA (va_recv hK hP (ci := 10) (q0 := 0) rfl o_Mo) rfl hl.1 rfl (Nat.le_of_ble_eq_true rfl) dX11_car_22 ⟨Nat.zero_le _, Nat.zero_le _⟩ (fun H locs hP hD hS => ?_)
    have hP : va_P D vwCl (wMo K hMo o11.2) H := hP
    have hD : va_D A (wMo K hMo o11.2) := hD
    have e9 := Option.some.inj hf
    rw [hQ]
    exact W.iret (v := o11.1) hx hb hr (fun t ht hW => ⟨⟨o11.1, o11.2, rfl, ⟨pr1 e9, pr2 e9⟩, ⟨by rw [ht]; exact hP, va_K.moved hW.alike hK, hD⟩⟩, hS.F ht⟩) hS.2.2 dX11_car_25
  have w45 : ∀ (sMo : MS), ∀ (H : Heap) (locs : List Loc) (ls : Array Slot), f_X11_car_45 F p1 sMo = some res → va_P D vwCl (wMo K hMo sMo) H → va_D A (wMo K hMo sMo) → va_S A s.heap H locs → lv_has ls 2 [(0, .ref (hMo 99)), (1, .int p1)] → W p l e (headSpec wz_X11_car r_X11_car).room s m args below meth c H locs 0 0 Q (F0 m 45 ls []) := by
    intro sMo H locs ls hf hP hD hS hl
    unfold f_X11_car_45 at hf
    refine lv_aload_n hx hb dX11_car_45 rfl (lv_at hl 0 rfl) ?_
    refine va_get (D := D) (ci := 10) (v := .ref (hMo 18)) (C := RX11) (T := TX11) (N := 41) hx hb hts iX11 hown hK hP 0 o_Mo rfl 18 (by decide) (htl _ (mB6 _ (List.mem_of_getElem? (i := 6) rfl))) (fun _ h9 => h9) rfl dX11_car_46 ?_
    refine lv_iload_n hx hb dX11_car_49 rfl (lv_at hl 1 rfl) ?_
    obtain ⟨g9, hf⟩ := gd_s hf
    refine va_iald hx hb hK hP 6 0 (f := sMo.2.2.1 18) a_Mo_18 rfl (vpb_in g9) dX11_car_50 ?_
    refine lv_topi (fun v10 ev10 => ?_)
    have hf := lz_s hf v10 ev10
    have e9 := Option.some.inj hf
    rw [hQ]
    exact W.iret (v := v10) hx hb hr (fun t ht hW => ⟨⟨v10, sMo, rfl, ⟨pr1 e9, pr2 e9⟩, ⟨by rw [ht]; exact hP, va_K.moved hW.alike hK, hD⟩⟩, hS.F ht⟩) hS.2.2 dX11_car_51
  have hen : entryFrame m args 2 = entryFrame m (([.ref (hMo 99), .int p1] : List Value).toArray) 2 := by rw [hargs]
  have hl := lv_entry ([.ref (hMo 99), .int p1]) (n := 2) (Nat.le_of_ble_eq_true rfl)
  rw [hen, lg_entry_eq]
  generalize (lg_sl ([.ref (hMo 99), .int p1]) ++ List.replicate (2 - (lg_sl ([.ref (hMo 99), .int p1])).length) Slot.unset).toArray = ls at hl ⊢
  have hl : lv_has ls 2 [(0, .ref (hMo 99)), (1, .int p1)] := hl
  unfold f_X11_car at hf
  obtain ⟨H, hHe⟩ : ∃ z, z = s.heap := ⟨_, rfl⟩
  obtain ⟨locs, hLe⟩ : ∃ z : List Loc, z = [] := ⟨_, rfl⟩
  rw [← hLe]
  have hS : va_S A s.heap H locs := by rw [hHe, hLe]; exact hS
  have hP : va_P D vwCl (wMo K hMo sMo) H := by rw [hHe]; exact hP
  have hgo : W p l e (headSpec wz_X11_car r_X11_car).room s m args below meth c H locs 0 0 Q (F0 m 0 ls []) := by
    refine lv_aload_n hx hb dX11_car_0 rfl (lv_at hl 0 rfl) ?_
    obtain ⟨o1, go1, hf⟩ := bd_s hf
    refine rs_Vv (As := []) (rest := []) ⟨hx, hb, hml, hown, hts⟩ (c_X11_good l D K F hMo H.size sMo o1 go1) (cwV 0 hts (gcV_X11_good (mB18 _ (List.mem_of_getElem? (i := 7) rfl))) rfl rfl rfl hdV_X11_good ⟨Nat.le_of_ble_eq_true rfl, Nat.le_of_ble_eq_true rfl⟩) hK hP hD hS hA (va_recv hK hP (ci := 10) (q0 := 0) rfl o_Mo) rfl hl.1 rfl (Nat.le_of_ble_eq_true rfl) dX11_car_1 ⟨Nat.zero_le _, Nat.zero_le _⟩ (fun H locs hP hD hS => ?_)
    have hP : va_P D vwCl (wMo K hMo o1) H := hP
    have hD : va_D A (wMo K hMo o1) := hD
    refine lv_aload_n hx hb dX11_car_4 rfl (lv_at hl 0 rfl) ?_
    refine va_get (D := D) (ci := 10) (v := .int (o1.1 14)) (C := RX11) (T := TX11) (N := 41) hx hb hts iX11 hown hK hP 0 o_Mo rfl 14 (by decide) (htl _ (mB18 _ (List.mem_of_getElem? (i := 4) rfl))) (fun _ h9 => h9) rfl dX11_car_5 ?_
    refine lv_if_eq (tgt := 20) hx hb dX11_car_8 (by decide) (fun c2 => ?_) (fun c2 => ?_)
    · have hf := it_t hf c2
      exact w20 o1 H locs ls hf hP hD hS (lv_sub hl [0] rfl)
    · have hf := it_f hf c2
      refine lv_iload_n hx hb dX11_car_11 rfl (lv_at hl 1 rfl) ?_
      refine lv_iconst (v := (0 : Int32)) hx hb dX11_car_12 (by decide) ?_
      refine lv_iconst (v := (4 : Int32)) hx hb dX11_car_13 (by decide) ?_
      obtain ⟨o3, go3, hf⟩ := bd_s hf
      refine ro_Si (As := [.int p1, .int (0 : Int32), .int (4 : Int32)]) (rest := []) ⟨hx, hb, hml, hown, hts⟩ (c_X11_in l D K F p1 (0 : Int32) (4 : Int32) o3 go3) (va_cwS 3 hts (gcS_X11_in (mB18 _ (List.mem_of_getElem? (i := 12) rfl))) rfl rfl rfl hdS_X11_in ⟨Nat.le_of_ble_eq_true rfl, Nat.le_of_ble_eq_true rfl⟩) hK hP hS va_Pnil rfl hl.1 rfl (Nat.le_of_ble_eq_true rfl) dX11_car_14 ⟨Nat.zero_le _, Nat.zero_le _⟩ (fun H locs hP hS => ?_)
      refine lv_if_ne (tgt := 26) hx hb dX11_car_17 (by decide) (fun c4 => ?_) (fun c4 => ?_)
      · have hf := it_f hf c4
        refine lv_iload_n hx hb dX11_car_26 rfl (lv_at hl 1 rfl) ?_
        refine lv_iconst (v := (4 : Int32)) hx hb dX11_car_27 (by decide) ?_
        refine lv_icmp_ne (tgt := 45) hx hb dX11_car_28 (by decide) (fun c5 => ?_) (fun c5 => ?_)
        · have hf := it_f hf c5
          exact w45 o1 H locs ls hf hP hD hS (lv_sub hl [0, 1] rfl)
        · have hf := it_t hf c5
          refine lv_aload_n hx hb dX11_car_31 rfl (lv_at hl 0 rfl) ?_
          refine va_get (D := D) (ci := 10) (v := .ref (hMo 18)) (C := RX11) (T := TX11) (N := 41) hx hb hts iX11 hown hK hP 0 o_Mo rfl 18 (by decide) (htl _ (mB6 _ (List.mem_of_getElem? (i := 6) rfl))) (fun _ h9 => h9) rfl dX11_car_32 ?_
          refine lv_iconst (v := (4 : Int32)) hx hb dX11_car_35 (by decide) ?_
          obtain ⟨g6, hf⟩ := gd_s hf
          refine va_iald hx hb hK hP 6 0 (f := o1.2.2.1 18) a_Mo_18 rfl (vpb_in g6) dX11_car_36 ?_
          refine lv_topi (fun v7 ev7 => ?_)
          have hf := lz_s hf v7 ev7
          refine lv_if_ne (tgt := 45) hx hb dX11_car_37 (by decide) (fun c8 => ?_) (fun c8 => ?_)
          · have hf := it_f hf c8
            exact w45 o1 H locs ls hf hP hD hS (lv_sub hl [0, 1] rfl)
          · have hf := it_t hf c8
            refine lv_bipush (v := (-2 : Int32)) hx hb dX11_car_40 (by decide) ?_
            refine lv_goto (tgt := 51) hx hb dX11_car_42 (by decide) ?_
            have e9 := Option.some.inj hf
            rw [hQ]
            exact W.iret (v := (-2 : Int32)) hx hb hr (fun t ht hW => ⟨⟨(-2 : Int32), o1, rfl, ⟨pr1 e9, pr2 e9⟩, ⟨by rw [ht]; exact hP, va_K.moved hW.alike hK, hD⟩⟩, hS.F ht⟩) hS.2.2 dX11_car_51
      · have hf := it_t hf c4
        exact w20 o1 H locs ls hf hP hD hS (lv_sub hl [0] rfl)
  rw [hHe] at hgo
  exact hgo

def wz_X11_note : List Cond := .code yX11_note cX11_note 2 none :: wsL_law
abbrev r_X11_note : Room := { frames := 1, cells := 0, slots := 0, locals := 25 }
set_option maxHeartbeats 4000000 in
set_option maxRecDepth 100000 in
theorem c_X11_note (l : Launch) (D : va_G) (K : Nat → ClassId) (F : Nat) (hMo : Nat → Nat) (sz : Nat) (sMo : MS) (res : MS) (hf : f_X11_note F sMo = some res) : Met l yX11_note wz_X11_note r_X11_note (va_Pc [.ref (hMo 99)] (PW D K (wMo K hMo sMo) sz)) (va_Qv (fun u => u = res) (fun u t => BW D K (va_A (wMo K hMo sMo) sz) (wMo K hMo u) t) (va_A (wMo K hMo sMo) sz)) 0 0 (va_A (wMo K hMo sMo) sz) := by
  refine Met.ofW (cc := cX11_note) (maxL := 2) (ret := none) (by decide) rfl ?_
  intro p e s m args below meth c s₁ B hml hv
  obtain ⟨hargs, hsz, hP, hK, hD0⟩ := hv
  have hx := B.exec
  have hb := B.bytes
  have hr := B.returns
  have hts := atoms_spec (ws := wz_X11_note) B.pre
  have htl : ∀ w ∈ wsL_law, w.before args s = true := fun w h => hts w (List.mem_cons_of_mem _ h)
  have hown : s.vm.findClass RX11 = some m.cls := findClass_of_methodNamed B.named
  have hlocks := B.notSynchronized
  subst hsz
  have hD := hD0.self (sz := s.heap.size)
  generalize hAe : va_A (wMo K hMo sMo) s.heap.size = A at hD ⊢
  have hA : ∀ q : Nat, s.heap.size ≤ q → A q := fun q h => by rw [← hAe]; exact Or.inr h
  have hS : va_S A s.heap s.heap [] := va_S.rf
  have iX11 : ∀ w ∈ wsX110, w ∈ wz_X11_note := fun w h => List.mem_cons_of_mem _ (inlX11 w h)
  suffices hgo : ∀ Q : State → Prop, Q = MQ below (va_Qv (fun u => u = res) (fun u t => BW D K A (wMo K hMo u) t) A) args s 0 0 A → W p l e (headSpec wz_X11_note r_X11_note).room s m args below meth c s.heap [] 0 0 Q (entryFrame m args 2) from hgo _ rfl
  intro Q hQ
  have w48 : ∀ (sMo : MS), ∀ (H : Heap) (locs : List Loc) (ls : Array Slot), f_X11_note_48 F sMo = some res → va_P D vwCl (wMo K hMo sMo) H → va_D A (wMo K hMo sMo) → va_S A s.heap H locs → lv_has ls 2 [(0, .ref (hMo 99))] → W p l e (headSpec wz_X11_note r_X11_note).room s m args below meth c H locs 0 0 Q (F0 m 48 ls []) := by
    intro sMo H locs ls hf hP hD hS hl
    unfold f_X11_note_48 at hf
    refine lv_aload_n hx hb dX11_note_48 rfl (lv_at hl 0 rfl) ?_
    refine va_get (D := D) (ci := 10) (v := .ref (hMo 18)) (C := RX11) (T := TX11) (N := 41) hx hb hts iX11 hown hK hP 0 o_Mo rfl 18 (by decide) (htl _ (mB6 _ (List.mem_of_getElem? (i := 6) rfl))) (fun _ h9 => h9) rfl dX11_note_49 ?_
    refine lv_iconst (v := (0 : Int32)) hx hb dX11_note_52 (by decide) ?_
    refine lv_aload_n hx hb dX11_note_53 rfl (lv_at hl 0 rfl) ?_
    refine va_get (D := D) (ci := 10) (v := .ref (hMo 19)) (C := RX11) (T := TX11) (N := 41) hx hb hts iX11 hown hK hP 0 o_Mo rfl 19 (by decide) (htl _ (mB6 _ (List.mem_of_getElem? (i := 7) rfl))) (fun _ h9 => h9) rfl dX11_note_54 ?_
    refine lv_bipush (v := (7 : Int32)) hx hb dX11_note_57 (by decide) ?_
    refine lv_aload_n hx hb dX11_note_59 rfl (lv_at hl 0 rfl) ?_
    refine va_get (D := D) (ci := 10) (v := .int (sMo.1 21)) (C := RX11) (T := TX11) (N := 41) hx hb hts iX11 hown hK hP 0 o_Mo rfl 21 (by decide) (htl _ (mB18 _ (List.mem_of_getElem? (i := 5) rfl))) (fun _ h9 => h9) rfl dX11_note_60 ?_
    refine lv_imul hx hb dX11_note_63 ?_
    refine lv_bipush (v := (7 : Int32)) hx hb dX11_note_64 (by decide) ?_
    obtain ⟨o10, go10, hf⟩ := bd_s hf
    refine rw_Sv (wn := wMo K hMo (wA sMo 19 o10)) (As := [.ref (hMo 18), .int (0 : Int32), .ref (hMo 19), .int ((7 : Int32) * (sMo.1 21)), .int (7 : Int32)]) (rest := []) ⟨hx, hb, hml, hown, hts⟩ (c_X11_copy l D K F (hMo 18) 7 (hMo 19) 84 H.size (sMo.2.2.1 18) (sMo.2.2.1 19) (0 : Int32) ((7 : Int32) * (sMo.1 21)) (7 : Int32) o10 go10) (va_cwS 5 hts (gcS_X11_copy (mB22 _ (List.mem_of_getElem? (i := 21) rfl))) rfl rfl rfl hdS_X11_copy ⟨Nat.le_of_ble_eq_true rfl, Nat.le_of_ble_eq_true rfl⟩) hK hP hD hS hA [6, 7] [0, 1, 2, 3, 4, 5, 8, 9, 10, 11, 12, 13, 14, 15, 16, 17] [0, 1, 2, 3, 4, 5, 16, 17, 6, 7, 8, 9, 10, 11, 12, 13, 14, 15] rfl rfl (by decide +kernel) (by decide +kernel) (by decide +kernel) rfl (by decide +kernel) rfl hl.1 rfl (Nat.le_of_ble_eq_true rfl) dX11_note_66 ⟨Nat.zero_le _, Nat.zero_le _⟩ (fun H locs hP hD hS => ?_)
    have hP : va_P D vwCl (wMo K hMo (wA sMo 19 o10)) H := hP
    have hD : va_D A (wMo K hMo (wA sMo 19 o10)) := hD
    obtain ⟨s11, es11⟩ : ∃ z, z = (wA sMo 19 o10) := ⟨_, rfl⟩
    have hP : va_P D vwCl (wMo K hMo s11) H := by rw [es11]; exact hP
    have hD : va_D A (wMo K hMo s11) := by rw [es11]; exact hD
    have hf := lz_s hf s11 es11
    refine lv_aload_n hx hb dX11_note_69 rfl (lv_at hl 0 rfl) ?_
    refine lv_dup hx hb dX11_note_70 rfl ?_
    refine va_get (D := D) (ci := 10) (v := .int (s11.1 21)) (C := RX11) (T := TX11) (N := 41) hx hb hts iX11 hown hK hP 0 o_Mo rfl 21 (by decide) (htl _ (mB18 _ (List.mem_of_getElem? (i := 5) rfl))) (fun _ h9 => h9) rfl dX11_note_71 ?_
    refine lv_iconst (v := (1 : Int32)) hx hb dX11_note_74 (by decide) ?_
    refine lv_iadd hx hb dX11_note_75 ?_
    refine lv_topi (fun v12 ev12 => ?_)
    have hf := lz_s hf v12 ev12
    refine va_put (D := D) (ci := 10) (v := .int v12) (ty := .int) (C := RX11) (T := TX11) (N := 41) hx hb hts iX11 tyX11 tyX11_ok nmX11 hown hK hP hD hS 0 o_Mo rfl 21 (by decide) (htl _ (mB18 _ (List.mem_of_getElem? (i := 5) rfl))) (fun _ h9 => h9) rfl (by decide +kernel) rfl rfl (Nat.le_of_ble_eq_true rfl) dX11_note_76 (fun H locs hP hD hS => ?_)
    have hP := cvP si_Mo_21 hP
    have hD := cvD si_Mo_21 hD
    obtain ⟨s13, es13⟩ : ∃ z, z = sI s11 21 v12 := ⟨_, rfl⟩
    have hP : va_P D vwCl (wMo K hMo s13) H := by rw [es13]; exact hP
    have hD : va_D A (wMo K hMo s13) := by rw [es13]; exact hD
    have hf := lz_s hf s13 es13
    have e9 := Option.some.inj hf
    rw [hQ]
    exact W.vret hx hb hr (fun t ht hW => ⟨⟨s13, rfl, e9, ⟨by rw [ht]; exact hP, va_K.moved hW.alike hK, hD⟩⟩, hS.F ht⟩) hS.2.2 dX11_note_79
  have w38 : ∀ (sMo : MS), ∀ (H : Heap) (locs : List Loc) (ls : Array Slot), f_X11_note_38 F sMo = some res → va_P D vwCl (wMo K hMo sMo) H → va_D A (wMo K hMo sMo) → va_S A s.heap H locs → lv_has ls 2 [(0, .ref (hMo 99))] → W p l e (headSpec wz_X11_note r_X11_note).room s m args below meth c H locs 0 0 Q (F0 m 38 ls []) := by
    intro sMo H locs ls hf hP hD hS hl
    unfold f_X11_note_38 at hf
    refine lv_aload_n hx hb dX11_note_38 rfl (lv_at hl 0 rfl) ?_
    refine lv_dup hx hb dX11_note_39 rfl ?_
    refine va_get (D := D) (ci := 10) (v := .int (sMo.1 21)) (C := RX11) (T := TX11) (N := 41) hx hb hts iX11 hown hK hP 0 o_Mo rfl 21 (by decide) (htl _ (mB18 _ (List.mem_of_getElem? (i := 5) rfl))) (fun _ h9 => h9) rfl dX11_note_40 ?_
    refine lv_iconst (v := (1 : Int32)) hx hb dX11_note_43 (by decide) ?_
    refine lv_isub hx hb dX11_note_44 ?_
    refine lv_topi (fun v8 ev8 => ?_)
    have hf := lz_s hf v8 ev8
    refine va_put (D := D) (ci := 10) (v := .int v8) (ty := .int) (C := RX11) (T := TX11) (N := 41) hx hb hts iX11 tyX11 tyX11_ok nmX11 hown hK hP hD hS 0 o_Mo rfl 21 (by decide) (htl _ (mB18 _ (List.mem_of_getElem? (i := 5) rfl))) (fun _ h9 => h9) rfl (by decide +kernel) rfl rfl (Nat.le_of_ble_eq_true rfl) dX11_note_45 (fun H locs hP hD hS => ?_)
    have hP := cvP si_Mo_21 hP
    have hD := cvD si_Mo_21 hD
    obtain ⟨s9, es9⟩ : ∃ z, z = sI sMo 21 v8 := ⟨_, rfl⟩
    have hP : va_P D vwCl (wMo K hMo s9) H := by rw [es9]; exact hP
    have hD : va_D A (wMo K hMo s9) := by rw [es9]; exact hD
    have hf := lz_s hf s9 es9
    exact w48 s9 H locs ls hf hP hD hS (lv_sub hl [0] rfl)
  have w11 : ∀ (n : Nat), ∀ (x1 : Int32), ∀ (sMo : MS), ∀ (H : Heap) (locs : List Loc) (ls : Array Slot), f_X11_note_11 F n x1 sMo = some res → va_P D vwCl (wMo K hMo sMo) H → va_D A (wMo K hMo sMo) → va_S A s.heap H locs → lv_has ls 2 [(0, .ref (hMo 99)), (1, .int x1)] → W p l e (headSpec wz_X11_note r_X11_note).room s m args below meth c H locs 0 0 Q (F0 m 11 ls []) := by
    intro n
    induction n with
    | zero =>
      intro x1 sMo H locs ls hf
      exact absurd (show none = some res from hf) (fun h => nomatch h)
    | succ n ih =>
      intro x1 sMo H locs ls hf hP hD hS hl
      rw [f_X11_note_11] at hf
      refine lv_iload_n hx hb dX11_note_11 rfl (lv_at hl 1 rfl) ?_
      refine lv_bipush (v := (77 : Int32)) hx hb dX11_note_12 (by decide) ?_
      refine lv_icmp_ge (tgt := 38) hx hb dX11_note_14 (by decide) (fun c2 => ?_) (fun c2 => ?_)
      · have hf := it_t hf c2
        exact w38 sMo H locs ls hf hP hD hS (lv_sub hl [0] rfl)
      · have hf := it_f hf c2
        refine lv_aload_n hx hb dX11_note_17 rfl (lv_at hl 0 rfl) ?_
        refine va_get (D := D) (ci := 10) (v := .ref (hMo 19)) (C := RX11) (T := TX11) (N := 41) hx hb hts iX11 hown hK hP 0 o_Mo rfl 19 (by decide) (htl _ (mB6 _ (List.mem_of_getElem? (i := 7) rfl))) (fun _ h9 => h9) rfl dX11_note_18 ?_
        refine lv_iload_n hx hb dX11_note_21 rfl (lv_at hl 1 rfl) ?_
        refine lv_aload_n hx hb dX11_note_22 rfl (lv_at hl 0 rfl) ?_
        refine va_get (D := D) (ci := 10) (v := .ref (hMo 19)) (C := RX11) (T := TX11) (N := 41) hx hb hts iX11 hown hK hP 0 o_Mo rfl 19 (by decide) (htl _ (mB6 _ (List.mem_of_getElem? (i := 7) rfl))) (fun _ h9 => h9) rfl dX11_note_23 ?_
        refine lv_iload_n hx hb dX11_note_26 rfl (lv_at hl 1 rfl) ?_
        refine lv_bipush (v := (7 : Int32)) hx hb dX11_note_27 (by decide) ?_
        refine lv_iadd hx hb dX11_note_29 ?_
        obtain ⟨g3, hf⟩ := gd_s hf
        refine va_iald hx hb hK hP 7 0 (f := sMo.2.2.1 19) a_Mo_19 rfl (vpb_in g3) dX11_note_30 ?_
        refine lv_topi (fun v4 ev4 => ?_)
        have hf := lz_s hf v4 ev4
        obtain ⟨g5, hf⟩ := gd_s hf
        refine va_iast hx hb hK hP hD hS 7 0 (f := sMo.2.2.1 19) a_Mo_19 rfl (vpb_in g5) dX11_note_31 (fun H locs hP hD hS => ?_)
        have hP := cvP sa_Mo_19 hP
        have hD := cvD sa_Mo_19 hD
        obtain ⟨s6, es6⟩ : ∃ z, z = sA sMo 19 x1.toNatClampNeg v4 := ⟨_, rfl⟩
        have hP : va_P D vwCl (wMo K hMo s6) H := by rw [es6]; exact hP
        have hD : va_D A (wMo K hMo s6) := by rw [es6]; exact hD
        have hf := lz_s hf s6 es6
        obtain ⟨v7, ev7⟩ : ∃ z : Int32, z = x1 + (1 : Int32) := ⟨_, rfl⟩
        have hf := lz_s hf v7 ev7
        refine lv_iinc (v := v7) (lv' := [(1, .int v7), (0, .ref (hMo 99))]) hx hb dX11_note_32 hl (k := 1) rfl (by rw [ev7]; rfl) (by decide) rfl (fun ls hl => ?_)
        refine lv_goto (tgt := 11) hx hb dX11_note_35 (by decide) ?_
        exact ih v7 s6 H locs ls hf hP hD hS (lv_sub hl [1, 0] rfl)
  have hen : entryFrame m args 2 = entryFrame m (([.ref (hMo 99)] : List Value).toArray) 2 := by rw [hargs]
  have hl := lv_entry ([.ref (hMo 99)]) (n := 2) (Nat.le_of_ble_eq_true rfl)
  rw [hen, lg_entry_eq]
  generalize (lg_sl ([.ref (hMo 99)]) ++ List.replicate (2 - (lg_sl ([.ref (hMo 99)])).length) Slot.unset).toArray = ls at hl ⊢
  have hl : lv_has ls 2 [(0, .ref (hMo 99))] := hl
  unfold f_X11_note at hf
  obtain ⟨H, hHe⟩ : ∃ z, z = s.heap := ⟨_, rfl⟩
  obtain ⟨locs, hLe⟩ : ∃ z : List Loc, z = [] := ⟨_, rfl⟩
  rw [← hLe]
  have hS : va_S A s.heap H locs := by rw [hHe, hLe]; exact hS
  have hP : va_P D vwCl (wMo K hMo sMo) H := by rw [hHe]; exact hP
  have hgo : W p l e (headSpec wz_X11_note r_X11_note).room s m args below meth c H locs 0 0 Q (F0 m 0 ls []) := by
    refine lv_aload_n hx hb dX11_note_0 rfl (lv_at hl 0 rfl) ?_
    refine va_get (D := D) (ci := 10) (v := .int (sMo.1 21)) (C := RX11) (T := TX11) (N := 41) hx hb hts iX11 hown hK hP 0 o_Mo rfl 21 (by decide) (htl _ (mB18 _ (List.mem_of_getElem? (i := 5) rfl))) (fun _ h9 => h9) rfl dX11_note_1 ?_
    refine lv_bipush (v := (12 : Int32)) hx hb dX11_note_4 (by decide) ?_
    refine lv_icmp_ne (tgt := 48) hx hb dX11_note_6 (by decide) (fun c1 => ?_) (fun c1 => ?_)
    · have hf := it_f hf c1
      exact w48 sMo H locs ls hf hP hD hS (lv_sub hl [0] rfl)
    · have hf := it_t hf c1
      refine lv_iconst (v := (0 : Int32)) hx hb dX11_note_9 (by decide) ?_
      refine lv_istore_n (lv' := [(1, .int (0 : Int32)), (0, .ref (hMo 99))]) hx hb dX11_note_10 rfl hl (by decide) rfl (fun ls hl => ?_)
      exact w11 F (0 : Int32) sMo H locs ls hf hP hD hS (lv_sub hl [1, 0] rfl)
  rw [hHe] at hgo
  exact hgo

theorem gcV_X11_note {T0 : Cond} {own : String} {i : Nat} (h : Cond.methodLink own i yX11_note ∈ wsL_law) : GoodIn (T0 :: wsL_law) (wsV own i RX11 yX11_note wz_X11_note) := gV h (mB63 _ (List.mem_of_getElem? (i := 1) rfl)) (mB63 _ (List.mem_of_getElem? (i := 2) rfl)) (mB1 _ (List.mem_of_getElem? (i := 5) rfl)) (mB63 _ (List.mem_of_getElem? (i := 3) rfl))
theorem hdV_X11_note : yX11_note.cls = RX11 ∧ yX11_note.cls ≠ "java/lang/invoke/MethodHandle" ∧ yX11_note.cls ≠ "java/lang/invoke/VarHandle" ∧ (parseMethodDescriptor yX11_note.desc).map (fun d => d.parameters.length) = some 0 := by decide +kernel
def wz_X11_fill : List Cond := .code yX11_fill cX11_fill 2 (some .int) :: wsL_law
abbrev r_X11_fill : Room := { frames := 2, cells := 0, slots := 0, locals := 46 }
set_option maxHeartbeats 4000000 in
set_option maxRecDepth 100000 in
theorem c_X11_fill (l : Launch) (D : va_G) (K : Nat → ClassId) (F : Nat) (hMo : Nat → Nat) (sz : Nat) (sMo : MS) (p1 : Int32) (res : Int32 × MS) (hf : f_X11_fill F p1 sMo = some res) : Met l yX11_fill wz_X11_fill r_X11_fill (va_Pc [.ref (hMo 99), .int p1] (PW D K (wMo K hMo sMo) sz)) (va_Qi (fun r u => r = res.1 ∧ u = res.2) (fun u t => BW D K (va_A (wMo K hMo sMo) sz) (wMo K hMo u) t) (va_A (wMo K hMo sMo) sz)) 0 0 (va_A (wMo K hMo sMo) sz) := by
  refine Met.ofW (cc := cX11_fill) (maxL := 2) (ret := (some .int)) (by decide) rfl ?_
  intro p e s m args below meth c s₁ B hml hv
  obtain ⟨hargs, hsz, hP, hK, hD0⟩ := hv
  have hx := B.exec
  have hb := B.bytes
  have hr := B.returns
  have hts := atoms_spec (ws := wz_X11_fill) B.pre
  have htl : ∀ w ∈ wsL_law, w.before args s = true := fun w h => hts w (List.mem_cons_of_mem _ h)
  have hown : s.vm.findClass RX11 = some m.cls := findClass_of_methodNamed B.named
  have hlocks := B.notSynchronized
  subst hsz
  have hD := hD0.self (sz := s.heap.size)
  generalize hAe : va_A (wMo K hMo sMo) s.heap.size = A at hD ⊢
  have hA : ∀ q : Nat, s.heap.size ≤ q → A q := fun q h => by rw [← hAe]; exact Or.inr h
  have hS : va_S A s.heap s.heap [] := va_S.rf
  have iX11 : ∀ w ∈ wsX110, w ∈ wz_X11_fill := fun w h => List.mem_cons_of_mem _ (inlX11 w h)
  suffices hgo : ∀ Q : State → Prop, Q = MQ below (va_Qi (fun r u => r = res.1 ∧ u = res.2) (fun u t => BW D K A (wMo K hMo u) t) A) args s 0 0 A → W p l e (headSpec wz_X11_fill r_X11_fill).room s m args below meth c s.heap [] 0 0 Q (entryFrame m args 2) from hgo _ rfl
  intro Q hQ
  have w103 : ∀ (sMo : MS), ∀ (H : Heap) (locs : List Loc) (ls : Array Slot), f_X11_fill_103 F p1 sMo = some res → va_P D vwCl (wMo K hMo sMo) H → va_D A (wMo K hMo sMo) → va_S A s.heap H locs → lv_has ls 2 [(0, .ref (hMo 99)), (1, .int p1)] → W p l e (headSpec wz_X11_fill r_X11_fill).room s m args below meth c H locs 0 0 Q (F0 m 103 ls []) := by
    intro sMo H locs ls hf hP hD hS hl
    unfold f_X11_fill_103 at hf
    refine lv_aload_n hx hb dX11_fill_103 rfl (lv_at hl 0 rfl) ?_
    refine va_get (D := D) (ci := 10) (v := .ref (hMo 18)) (C := RX11) (T := TX11) (N := 41) hx hb hts iX11 hown hK hP 0 o_Mo rfl 18 (by decide) (htl _ (mB6 _ (List.mem_of_getElem? (i := 6) rfl))) (fun _ h9 => h9) rfl dX11_fill_104 ?_
    refine lv_iconst (v := (5 : Int32)) hx hb dX11_fill_107 (by decide) ?_
    refine lv_iconst (v := (1 : Int32)) hx hb dX11_fill_108 (by decide) ?_
    obtain ⟨g31, hf⟩ := gd_s hf
    refine va_iast hx hb hK hP hD hS 6 0 (f := sMo.2.2.1 18) a_Mo_18 rfl (vpb_in g31) dX11_fill_109 (fun H locs hP hD hS => ?_)
    have hP := cvP sa_Mo_18 hP
    have hD := cvD sa_Mo_18 hD
    obtain ⟨s32, es32⟩ : ∃ z, z = sA sMo 18 ((5 : Int32).toNatClampNeg) (1 : Int32) := ⟨_, rfl⟩
    have hP : va_P D vwCl (wMo K hMo s32) H := by rw [es32]; exact hP
    have hD : va_D A (wMo K hMo s32) := by rw [es32]; exact hD
    have hf := lz_s hf s32 es32
    refine lv_aload_n hx hb dX11_fill_110 rfl (lv_at hl 0 rfl) ?_
    refine va_get (D := D) (ci := 10) (v := .ref (hMo 18)) (C := RX11) (T := TX11) (N := 41) hx hb hts iX11 hown hK hP 0 o_Mo rfl 18 (by decide) (htl _ (mB6 _ (List.mem_of_getElem? (i := 6) rfl))) (fun _ h9 => h9) rfl dX11_fill_111 ?_
    refine lv_iconst (v := (1 : Int32)) hx hb dX11_fill_114 (by decide) ?_
    refine lv_dup2_11 hx hb dX11_fill_115 rfl rfl ?_
    obtain ⟨g33, hf⟩ := gd_s hf
    refine va_iald hx hb hK hP 6 0 (f := s32.2.2.1 18) a_Mo_18 rfl (vpb_in g33) dX11_fill_116 ?_
    refine lv_topi (fun v34 ev34 => ?_)
    have hf := lz_s hf v34 ev34
    refine lv_iload_n hx hb dX11_fill_117 rfl (lv_at hl 1 rfl) ?_
    refine lv_iadd hx hb dX11_fill_118 ?_
    obtain ⟨g35, hf⟩ := gd_s hf
    refine va_iast hx hb hK hP hD hS 6 0 (f := s32.2.2.1 18) a_Mo_18 rfl (vpb_in g35) dX11_fill_119 (fun H locs hP hD hS => ?_)
    have hP := cvP sa_Mo_18 hP
    have hD := cvD sa_Mo_18 hD
    obtain ⟨s36, es36⟩ : ∃ z, z = sA s32 18 ((1 : Int32).toNatClampNeg) (v34 + p1) := ⟨_, rfl⟩
    have hP : va_P D vwCl (wMo K hMo s36) H := by rw [es36]; exact hP
    have hD : va_D A (wMo K hMo s36) := by rw [es36]; exact hD
    have hf := lz_s hf s36 es36
    refine lv_aload_n hx hb dX11_fill_120 rfl (lv_at hl 0 rfl) ?_
    refine va_get (D := D) (ci := 10) (v := .ref (hMo 18)) (C := RX11) (T := TX11) (N := 41) hx hb hts iX11 hown hK hP 0 o_Mo rfl 18 (by decide) (htl _ (mB6 _ (List.mem_of_getElem? (i := 6) rfl))) (fun _ h9 => h9) rfl dX11_fill_121 ?_
    refine lv_iconst (v := (2 : Int32)) hx hb dX11_fill_124 (by decide) ?_
    refine lv_dup2_11 hx hb dX11_fill_125 rfl rfl ?_
    obtain ⟨g37, hf⟩ := gd_s hf
    refine va_iald hx hb hK hP 6 0 (f := s36.2.2.1 18) a_Mo_18 rfl (vpb_in g37) dX11_fill_126 ?_
    refine lv_topi (fun v38 ev38 => ?_)
    have hf := lz_s hf v38 ev38
    refine lv_iload_n hx hb dX11_fill_127 rfl (lv_at hl 1 rfl) ?_
    refine lv_aload_n hx hb dX11_fill_128 rfl (lv_at hl 0 rfl) ?_
    refine va_get (D := D) (ci := 10) (v := .ref (hMo 18)) (C := RX11) (T := TX11) (N := 41) hx hb hts iX11 hown hK hP 0 o_Mo rfl 18 (by decide) (htl _ (mB6 _ (List.mem_of_getElem? (i := 6) rfl))) (fun _ h9 => h9) rfl dX11_fill_129 ?_
    refine lv_iconst (v := (4 : Int32)) hx hb dX11_fill_132 (by decide) ?_
    obtain ⟨g39, hf⟩ := gd_s hf
    refine va_iald hx hb hK hP 6 0 (f := s36.2.2.1 18) a_Mo_18 rfl (vpb_in g39) dX11_fill_133 ?_
    refine lv_topi (fun v40 ev40 => ?_)
    have hf := lz_s hf v40 ev40
    refine lv_imul hx hb dX11_fill_134 ?_
    refine lv_iadd hx hb dX11_fill_135 ?_
    obtain ⟨g41, hf⟩ := gd_s hf
    refine va_iast hx hb hK hP hD hS 6 0 (f := s36.2.2.1 18) a_Mo_18 rfl (vpb_in g41) dX11_fill_136 (fun H locs hP hD hS => ?_)
    have hP := cvP sa_Mo_18 hP
    have hD := cvD sa_Mo_18 hD
    obtain ⟨s42, es42⟩ : ∃ z, z = sA s36 18 ((2 : Int32).toNatClampNeg) (v38 + (p1 * v40)) := ⟨_, rfl⟩
    have hP : va_P D vwCl (wMo K hMo s42) H := by rw [es42]; exact hP
    have hD : va_D A (wMo K hMo s42) := by rw [es42]; exact hD
    have hf := lz_s hf s42 es42
    refine lv_aload_n hx hb dX11_fill_137 rfl (lv_at hl 0 rfl) ?_
    refine va_get (D := D) (ci := 10) (v := .ref (hMo 18)) (C := RX11) (T := TX11) (N := 41) hx hb hts iX11 hown hK hP 0 o_Mo rfl 18 (by decide) (htl _ (mB6 _ (List.mem_of_getElem? (i := 6) rfl))) (fun _ h9 => h9) rfl dX11_fill_138 ?_
    refine lv_iconst (v := (2 : Int32)) hx hb dX11_fill_141 (by decide) ?_
    obtain ⟨g43, hf⟩ := gd_s hf
    refine va_iald hx hb hK hP 6 0 (f := s42.2.2.1 18) a_Mo_18 rfl (vpb_in g43) dX11_fill_142 ?_
    refine lv_topi (fun v44 ev44 => ?_)
    have hf := lz_s hf v44 ev44
    have e9 := Option.some.inj hf
    rw [hQ]
    exact W.iret (v := v44) hx hb hr (fun t ht hW => ⟨⟨v44, s42, rfl, ⟨pr1 e9, pr2 e9⟩, ⟨by rw [ht]; exact hP, va_K.moved hW.alike hK, hD⟩⟩, hS.F ht⟩) hS.2.2 dX11_fill_143
  have hen : entryFrame m args 2 = entryFrame m (([.ref (hMo 99), .int p1] : List Value).toArray) 2 := by rw [hargs]
  have hl := lv_entry ([.ref (hMo 99), .int p1]) (n := 2) (Nat.le_of_ble_eq_true rfl)
  rw [hen, lg_entry_eq]
  generalize (lg_sl ([.ref (hMo 99), .int p1]) ++ List.replicate (2 - (lg_sl ([.ref (hMo 99), .int p1])).length) Slot.unset).toArray = ls at hl ⊢
  have hl : lv_has ls 2 [(0, .ref (hMo 99)), (1, .int p1)] := hl
  unfold f_X11_fill at hf
  obtain ⟨H, hHe⟩ : ∃ z, z = s.heap := ⟨_, rfl⟩
  obtain ⟨locs, hLe⟩ : ∃ z : List Loc, z = [] := ⟨_, rfl⟩
  rw [← hLe]
  have hS : va_S A s.heap H locs := by rw [hHe, hLe]; exact hS
  have hP : va_P D vwCl (wMo K hMo sMo) H := by rw [hHe]; exact hP
  have hgo : W p l e (headSpec wz_X11_fill r_X11_fill).room s m args below meth c H locs 0 0 Q (F0 m 0 ls []) := by
    refine lv_aload_n hx hb dX11_fill_0 rfl (lv_at hl 0 rfl) ?_
    obtain ⟨o1, go1, hf⟩ := bd_s hf
    refine rs_Vv (As := []) (rest := []) ⟨hx, hb, hml, hown, hts⟩ (c_X11_good l D K F hMo H.size sMo o1 go1) (cwV 0 hts (gcV_X11_good (mB18 _ (List.mem_of_getElem? (i := 7) rfl))) rfl rfl rfl hdV_X11_good ⟨Nat.le_of_ble_eq_true rfl, Nat.le_of_ble_eq_true rfl⟩) hK hP hD hS hA (va_recv hK hP (ci := 10) (q0 := 0) rfl o_Mo) rfl hl.1 rfl (Nat.le_of_ble_eq_true rfl) dX11_fill_1 ⟨Nat.zero_le _, Nat.zero_le _⟩ (fun H locs hP hD hS => ?_)
    have hP : va_P D vwCl (wMo K hMo o1) H := hP
    have hD : va_D A (wMo K hMo o1) := hD
    refine lv_aload_n hx hb dX11_fill_4 rfl (lv_at hl 0 rfl) ?_
    refine va_get (D := D) (ci := 10) (v := .int (o1.1 14)) (C := RX11) (T := TX11) (N := 41) hx hb hts iX11 hown hK hP 0 o_Mo rfl 14 (by decide) (htl _ (mB18 _ (List.mem_of_getElem? (i := 4) rfl))) (fun _ h9 => h9) rfl dX11_fill_5 ?_
    refine lv_if_ne (tgt := 17) hx hb dX11_fill_8 (by decide) (fun c2 => ?_) (fun c2 => ?_)
    · have hf := it_f hf c2
      refine lv_aload_n hx hb dX11_fill_17 rfl (lv_at hl 0 rfl) ?_
      refine va_get (D := D) (ci := 10) (v := .ref (hMo 18)) (C := RX11) (T := TX11) (N := 41) hx hb hts iX11 hown hK hP 0 o_Mo rfl 18 (by decide) (htl _ (mB6 _ (List.mem_of_getElem? (i := 6) rfl))) (fun _ h9 => h9) rfl dX11_fill_18 ?_
      refine lv_iconst (v := (4 : Int32)) hx hb dX11_fill_21 (by decide) ?_
      obtain ⟨g3, hf⟩ := gd_s hf
      refine va_iald hx hb hK hP 6 0 (f := o1.2.2.1 18) a_Mo_18 rfl (vpb_in g3) dX11_fill_22 ?_
      refine lv_topi (fun v4 ev4 => ?_)
      have hf := lz_s hf v4 ev4
      refine lv_if_ne (tgt := 33) hx hb dX11_fill_23 (by decide) (fun c5 => ?_) (fun c5 => ?_)
      · have hf := it_f hf c5
        refine lv_iload_n hx hb dX11_fill_33 rfl (lv_at hl 1 rfl) ?_
        refine lv_iconst (v := (1 : Int32)) hx hb dX11_fill_34 (by decide) ?_
        refine lv_aload_n hx hb dX11_fill_35 rfl (lv_at hl 0 rfl) ?_
        refine va_get (D := D) (ci := 10) (v := .ref (hMo 15)) (C := RX11) (T := TX11) (N := 41) hx hb hts iX11 hown hK hP 0 o_Mo rfl 15 (by decide) (htl _ (mB6 _ (List.mem_of_getElem? (i := 3) rfl))) (fun _ h9 => h9) rfl dX11_fill_36 ?_
        refine lv_iconst (v := (0 : Int32)) hx hb dX11_fill_39 (by decide) ?_
        obtain ⟨g6, hf⟩ := gd_s hf
        refine va_iald hx hb hK hP 3 0 (f := o1.2.2.1 15) a_Mo_15 rfl (vpb_in g6) dX11_fill_40 ?_
        refine lv_topi (fun v7 ev7 => ?_)
        have hf := lz_s hf v7 ev7
        refine lv_aload_n hx hb dX11_fill_41 rfl (lv_at hl 0 rfl) ?_
        refine va_get (D := D) (ci := 10) (v := .ref (hMo 18)) (C := RX11) (T := TX11) (N := 41) hx hb hts iX11 hown hK hP 0 o_Mo rfl 18 (by decide) (htl _ (mB6 _ (List.mem_of_getElem? (i := 6) rfl))) (fun _ h9 => h9) rfl dX11_fill_42 ?_
        refine lv_iconst (v := (1 : Int32)) hx hb dX11_fill_45 (by decide) ?_
        obtain ⟨g8, hf⟩ := gd_s hf
        refine va_iald hx hb hK hP 6 0 (f := o1.2.2.1 18) a_Mo_18 rfl (vpb_in g8) dX11_fill_46 ?_
        refine lv_topi (fun v9 ev9 => ?_)
        have hf := lz_s hf v9 ev9
        refine lv_isub hx hb dX11_fill_47 ?_
        obtain ⟨o10, go10, hf⟩ := bd_s hf
        refine ro_Si (As := [.int p1, .int (1 : Int32), .int (v7 - v9)]) (rest := []) ⟨hx, hb, hml, hown, hts⟩ (c_X11_in l D K F p1 (1 : Int32) (v7 - v9) o10 go10) (va_cwS 3 hts (gcS_X11_in (mB18 _ (List.mem_of_getElem? (i := 12) rfl))) rfl rfl rfl hdS_X11_in ⟨Nat.le_of_ble_eq_true rfl, Nat.le_of_ble_eq_true rfl⟩) hK hP hS va_Pnil rfl hl.1 rfl (Nat.le_of_ble_eq_true rfl) dX11_fill_48 ⟨Nat.zero_le _, Nat.zero_le _⟩ (fun H locs hP hS => ?_)
        refine lv_if_ne (tgt := 60) hx hb dX11_fill_51 (by decide) (fun c11 => ?_) (fun c11 => ?_)
        · have hf := it_f hf c11
          refine lv_aload_n hx hb dX11_fill_60 rfl (lv_at hl 0 rfl) ?_
          obtain ⟨o12, go12, hf⟩ := bd_s hf
          refine rs_Vv (As := []) (rest := []) ⟨hx, hb, hml, hown, hts⟩ (c_X11_note l D K F hMo H.size o1 o12 go12) (cwV 0 hts (gcV_X11_note (mB63 _ (List.mem_of_getElem? (i := 0) rfl))) rfl rfl rfl hdV_X11_note ⟨Nat.le_of_ble_eq_true rfl, Nat.le_of_ble_eq_true rfl⟩) hK hP hD hS hA (va_recv hK hP (ci := 10) (q0 := 0) rfl o_Mo) rfl hl.1 rfl (Nat.le_of_ble_eq_true rfl) dX11_fill_61 ⟨Nat.zero_le _, Nat.zero_le _⟩ (fun H locs hP hD hS => ?_)
          have hP : va_P D vwCl (wMo K hMo o12) H := hP
          have hD : va_D A (wMo K hMo o12) := hD
          refine lv_aload_n hx hb dX11_fill_64 rfl (lv_at hl 0 rfl) ?_
          refine va_get (D := D) (ci := 10) (v := .ref (hMo 18)) (C := RX11) (T := TX11) (N := 41) hx hb hts iX11 hown hK hP 0 o_Mo rfl 18 (by decide) (htl _ (mB6 _ (List.mem_of_getElem? (i := 6) rfl))) (fun _ h9 => h9) rfl dX11_fill_65 ?_
          refine lv_iconst (v := (5 : Int32)) hx hb dX11_fill_68 (by decide) ?_
          obtain ⟨g13, hf⟩ := gd_s hf
          refine va_iald hx hb hK hP 6 0 (f := o12.2.2.1 18) a_Mo_18 rfl (vpb_in g13) dX11_fill_69 ?_
          refine lv_topi (fun v14 ev14 => ?_)
          have hf := lz_s hf v14 ev14
          refine lv_if_ne (tgt := 103) hx hb dX11_fill_70 (by decide) (fun c15 => ?_) (fun c15 => ?_)
          · have hf := it_f hf c15
            exact w103 o12 H locs ls hf hP hD hS (lv_sub hl [0, 1] rfl)
          · have hf := it_t hf c15
            refine lv_aload_n hx hb dX11_fill_73 rfl (lv_at hl 0 rfl) ?_
            refine va_get (D := D) (ci := 10) (v := .ref (hMo 18)) (C := RX11) (T := TX11) (N := 41) hx hb hts iX11 hown hK hP 0 o_Mo rfl 18 (by decide) (htl _ (mB6 _ (List.mem_of_getElem? (i := 6) rfl))) (fun _ h9 => h9) rfl dX11_fill_74 ?_
            refine lv_iconst (v := (2 : Int32)) hx hb dX11_fill_77 (by decide) ?_
            refine lv_dup2_11 hx hb dX11_fill_78 rfl rfl ?_
            obtain ⟨g16, hf⟩ := gd_s hf
            refine va_iald hx hb hK hP 6 0 (f := o12.2.2.1 18) a_Mo_18 rfl (vpb_in g16) dX11_fill_79 ?_
            refine lv_topi (fun v17 ev17 => ?_)
            have hf := lz_s hf v17 ev17
            refine lv_aload_n hx hb dX11_fill_80 rfl (lv_at hl 0 rfl) ?_
            refine va_get (D := D) (ci := 10) (v := .ref (hMo 15)) (C := RX11) (T := TX11) (N := 41) hx hb hts iX11 hown hK hP 0 o_Mo rfl 15 (by decide) (htl _ (mB6 _ (List.mem_of_getElem? (i := 3) rfl))) (fun _ h9 => h9) rfl dX11_fill_81 ?_
            refine lv_iconst (v := (2 : Int32)) hx hb dX11_fill_84 (by decide) ?_
            obtain ⟨g18, hf⟩ := gd_s hf
            refine va_iald hx hb hK hP 3 0 (f := o12.2.2.1 15) a_Mo_15 rfl (vpb_in g18) dX11_fill_85 ?_
            refine lv_topi (fun v19 ev19 => ?_)
            have hf := lz_s hf v19 ev19
            refine lv_iadd hx hb dX11_fill_86 ?_
            obtain ⟨g20, hf⟩ := gd_s hf
            refine va_iast hx hb hK hP hD hS 6 0 (f := o12.2.2.1 18) a_Mo_18 rfl (vpb_in g20) dX11_fill_87 (fun H locs hP hD hS => ?_)
            have hP := cvP sa_Mo_18 hP
            have hD := cvD sa_Mo_18 hD
            obtain ⟨s21, es21⟩ : ∃ z, z = sA o12 18 ((2 : Int32).toNatClampNeg) (v17 + v19) := ⟨_, rfl⟩
            have hP : va_P D vwCl (wMo K hMo s21) H := by rw [es21]; exact hP
            have hD : va_D A (wMo K hMo s21) := by rw [es21]; exact hD
            have hf := lz_s hf s21 es21
            refine lv_aload_n hx hb dX11_fill_88 rfl (lv_at hl 0 rfl) ?_
            refine va_get (D := D) (ci := 10) (v := .ref (hMo 18)) (C := RX11) (T := TX11) (N := 41) hx hb hts iX11 hown hK hP 0 o_Mo rfl 18 (by decide) (htl _ (mB6 _ (List.mem_of_getElem? (i := 6) rfl))) (fun _ h9 => h9) rfl dX11_fill_89 ?_
            refine lv_iconst (v := (3 : Int32)) hx hb dX11_fill_92 (by decide) ?_
            refine lv_dup2_11 hx hb dX11_fill_93 rfl rfl ?_
            obtain ⟨g22, hf⟩ := gd_s hf
            refine va_iald hx hb hK hP 6 0 (f := s21.2.2.1 18) a_Mo_18 rfl (vpb_in g22) dX11_fill_94 ?_
            refine lv_topi (fun v23 ev23 => ?_)
            have hf := lz_s hf v23 ev23
            refine lv_aload_n hx hb dX11_fill_95 rfl (lv_at hl 0 rfl) ?_
            refine va_get (D := D) (ci := 10) (v := .ref (hMo 15)) (C := RX11) (T := TX11) (N := 41) hx hb hts iX11 hown hK hP 0 o_Mo rfl 15 (by decide) (htl _ (mB6 _ (List.mem_of_getElem? (i := 3) rfl))) (fun _ h9 => h9) rfl dX11_fill_96 ?_
            refine lv_iconst (v := (3 : Int32)) hx hb dX11_fill_99 (by decide) ?_
            obtain ⟨g24, hf⟩ := gd_s hf
            refine va_iald hx hb hK hP 3 0 (f := s21.2.2.1 15) a_Mo_15 rfl (vpb_in g24) dX11_fill_100 ?_
            refine lv_topi (fun v25 ev25 => ?_)
            have hf := lz_s hf v25 ev25
            refine lv_iadd hx hb dX11_fill_101 ?_
            obtain ⟨g26, hf⟩ := gd_s hf
            refine va_iast hx hb hK hP hD hS 6 0 (f := s21.2.2.1 18) a_Mo_18 rfl (vpb_in g26) dX11_fill_102 (fun H locs hP hD hS => ?_)
            have hP := cvP sa_Mo_18 hP
            have hD := cvD sa_Mo_18 hD
            obtain ⟨s27, es27⟩ : ∃ z, z = sA s21 18 ((3 : Int32).toNatClampNeg) (v23 + v25) := ⟨_, rfl⟩
            have hP : va_P D vwCl (wMo K hMo s27) H := by rw [es27]; exact hP
            have hD : va_D A (wMo K hMo s27) := by rw [es27]; exact hD
            have hf := lz_s hf s27 es27
            exact w103 s27 H locs ls hf hP hD hS (lv_sub hl [0, 1] rfl)
        · have hf := it_t hf c11
          refine lv_aload_n hx hb dX11_fill_54 rfl (lv_at hl 0 rfl) ?_
          refine lv_iconst (v := (2 : Int32)) hx hb dX11_fill_55 (by decide) ?_
          obtain ⟨o28, go28, hf⟩ := bd_s hf
          refine rs_Vi (As := [.int (2 : Int32)]) (rest := []) ⟨hx, hb, hml, hown, hts⟩ (c_X11_no l D K F hMo H.size o1 (2 : Int32) o28 go28) (cwV 1 hts (gcV_X11_no (mB18 _ (List.mem_of_getElem? (i := 15) rfl))) rfl rfl rfl hdV_X11_no ⟨Nat.le_of_ble_eq_true rfl, Nat.le_of_ble_eq_true rfl⟩) hK hP hD hS hA (va_recv hK hP (ci := 10) (q0 := 0) rfl o_Mo) rfl hl.1 rfl (Nat.le_of_ble_eq_true rfl) dX11_fill_56 ⟨Nat.zero_le _, Nat.zero_le _⟩ (fun H locs hP hD hS => ?_)
          have hP : va_P D vwCl (wMo K hMo o28.2) H := hP
          have hD : va_D A (wMo K hMo o28.2) := hD
          have e9 := Option.some.inj hf
          rw [hQ]
          exact W.iret (v := o28.1) hx hb hr (fun t ht hW => ⟨⟨o28.1, o28.2, rfl, ⟨pr1 e9, pr2 e9⟩, ⟨by rw [ht]; exact hP, va_K.moved hW.alike hK, hD⟩⟩, hS.F ht⟩) hS.2.2 dX11_fill_59
      · have hf := it_t hf c5
        refine lv_aload_n hx hb dX11_fill_26 rfl (lv_at hl 0 rfl) ?_
        refine lv_bipush (v := (6 : Int32)) hx hb dX11_fill_27 (by decide) ?_
        obtain ⟨o29, go29, hf⟩ := bd_s hf
        refine rs_Vi (As := [.int (6 : Int32)]) (rest := []) ⟨hx, hb, hml, hown, hts⟩ (c_X11_no l D K F hMo H.size o1 (6 : Int32) o29 go29) (cwV 1 hts (gcV_X11_no (mB18 _ (List.mem_of_getElem? (i := 15) rfl))) rfl rfl rfl hdV_X11_no ⟨Nat.le_of_ble_eq_true rfl, Nat.le_of_ble_eq_true rfl⟩) hK hP hD hS hA (va_recv hK hP (ci := 10) (q0 := 0) rfl o_Mo) rfl hl.1 rfl (Nat.le_of_ble_eq_true rfl) dX11_fill_29 ⟨Nat.zero_le _, Nat.zero_le _⟩ (fun H locs hP hD hS => ?_)
        have hP : va_P D vwCl (wMo K hMo o29.2) H := hP
        have hD : va_D A (wMo K hMo o29.2) := hD
        have e9 := Option.some.inj hf
        rw [hQ]
        exact W.iret (v := o29.1) hx hb hr (fun t ht hW => ⟨⟨o29.1, o29.2, rfl, ⟨pr1 e9, pr2 e9⟩, ⟨by rw [ht]; exact hP, va_K.moved hW.alike hK, hD⟩⟩, hS.F ht⟩) hS.2.2 dX11_fill_32
    · have hf := it_t hf c2
      refine lv_aload_n hx hb dX11_fill_11 rfl (lv_at hl 0 rfl) ?_
      refine lv_iconst (v := (1 : Int32)) hx hb dX11_fill_12 (by decide) ?_
      obtain ⟨o30, go30, hf⟩ := bd_s hf
      refine rs_Vi (As := [.int (1 : Int32)]) (rest := []) ⟨hx, hb, hml, hown, hts⟩ (c_X11_no l D K F hMo H.size o1 (1 : Int32) o30 go30) (cwV 1 hts (gcV_X11_no (mB18 _ (List.mem_of_getElem? (i := 15) rfl))) rfl rfl rfl hdV_X11_no ⟨Nat.le_of_ble_eq_true rfl, Nat.le_of_ble_eq_true rfl⟩) hK hP hD hS hA (va_recv hK hP (ci := 10) (q0 := 0) rfl o_Mo) rfl hl.1 rfl (Nat.le_of_ble_eq_true rfl) dX11_fill_13 ⟨Nat.zero_le _, Nat.zero_le _⟩ (fun H locs hP hD hS => ?_)
      have hP : va_P D vwCl (wMo K hMo o30.2) H := hP
      have hD : va_D A (wMo K hMo o30.2) := hD
      have e9 := Option.some.inj hf
      rw [hQ]
      exact W.iret (v := o30.1) hx hb hr (fun t ht hW => ⟨⟨o30.1, o30.2, rfl, ⟨pr1 e9, pr2 e9⟩, ⟨by rw [ht]; exact hP, va_K.moved hW.alike hK, hD⟩⟩, hS.F ht⟩) hS.2.2 dX11_fill_16
  rw [hHe] at hgo
  exact hgo

def wz_X11_drive : List Cond := .code yX11_drive cX11_drive 3 (some .int) :: wsL_law
abbrev r_X11_drive : Room := { frames := 3, cells := 0, slots := 0, locals := 66 }
set_option maxHeartbeats 4000000 in
set_option maxRecDepth 100000 in
theorem c_X11_drive (l : Launch) (D : va_G) (K : Nat → ClassId) (F : Nat) (hMo : Nat → Nat) (sz : Nat) (sMo : MS) (p1 : Int32) (res : Int32 × MS) (hf : f_X11_drive F p1 sMo = some res) : Met l yX11_drive wz_X11_drive r_X11_drive (va_Pc [.ref (hMo 99), .int p1] (PW D K (wMo K hMo sMo) sz)) (va_Qi (fun r u => r = res.1 ∧ u = res.2) (fun u t => BW D K (va_A (wMo K hMo sMo) sz) (wMo K hMo u) t) (va_A (wMo K hMo sMo) sz)) 0 0 (va_A (wMo K hMo sMo) sz) := by
  refine Met.ofW (cc := cX11_drive) (maxL := 3) (ret := (some .int)) (by decide) rfl ?_
  intro p e s m args below meth c s₁ B hml hv
  obtain ⟨hargs, hsz, hP, hK, hD0⟩ := hv
  have hx := B.exec
  have hb := B.bytes
  have hr := B.returns
  have hts := atoms_spec (ws := wz_X11_drive) B.pre
  have htl : ∀ w ∈ wsL_law, w.before args s = true := fun w h => hts w (List.mem_cons_of_mem _ h)
  have hown : s.vm.findClass RX11 = some m.cls := findClass_of_methodNamed B.named
  have hlocks := B.notSynchronized
  subst hsz
  have hD := hD0.self (sz := s.heap.size)
  generalize hAe : va_A (wMo K hMo sMo) s.heap.size = A at hD ⊢
  have hA : ∀ q : Nat, s.heap.size ≤ q → A q := fun q h => by rw [← hAe]; exact Or.inr h
  have hS : va_S A s.heap s.heap [] := va_S.rf
  have iX11 : ∀ w ∈ wsX110, w ∈ wz_X11_drive := fun w h => List.mem_cons_of_mem _ (inlX11 w h)
  suffices hgo : ∀ Q : State → Prop, Q = MQ below (va_Qi (fun r u => r = res.1 ∧ u = res.2) (fun u t => BW D K A (wMo K hMo u) t) A) args s 0 0 A → W p l e (headSpec wz_X11_drive r_X11_drive).room s m args below meth c s.heap [] 0 0 Q (entryFrame m args 3) from hgo _ rfl
  intro Q hQ
  have w22 : ∀ (sMo : MS), ∀ (H : Heap) (locs : List Loc) (ls : Array Slot), f_X11_drive_22 F p1 sMo = some res → va_P D vwCl (wMo K hMo sMo) H → va_D A (wMo K hMo sMo) → va_S A s.heap H locs → lv_has ls 3 [(0, .ref (hMo 99))] → W p l e (headSpec wz_X11_drive r_X11_drive).room s m args below meth c H locs 0 0 Q (F0 m 22 ls []) := by
    intro sMo H locs ls hf hP hD hS hl
    unfold f_X11_drive_22 at hf
    refine lv_aload_n hx hb dX11_drive_22 rfl (lv_at hl 0 rfl) ?_
    refine lv_iconst (v := (1 : Int32)) hx hb dX11_drive_23 (by decide) ?_
    obtain ⟨o32, go32, hf⟩ := bd_s hf
    refine rs_Vi (As := [.int (1 : Int32)]) (rest := []) ⟨hx, hb, hml, hown, hts⟩ (c_X11_no l D K F hMo H.size sMo (1 : Int32) o32 go32) (cwV 1 hts (gcV_X11_no (mB18 _ (List.mem_of_getElem? (i := 15) rfl))) rfl rfl rfl hdV_X11_no ⟨Nat.le_of_ble_eq_true rfl, Nat.le_of_ble_eq_true rfl⟩) hK hP hD hS hA (va_recv hK hP (ci := 10) (q0 := 0) rfl o_Mo) rfl hl.1 rfl (Nat.le_of_ble_eq_true rfl) dX11_drive_24 ⟨Nat.zero_le _, Nat.zero_le _⟩ (fun H locs hP hD hS => ?_)
    have hP : va_P D vwCl (wMo K hMo o32.2) H := hP
    have hD : va_D A (wMo K hMo o32.2) := hD
    have e9 := Option.some.inj hf
    rw [hQ]
    exact W.iret (v := o32.1) hx hb hr (fun t ht hW => ⟨⟨o32.1, o32.2, rfl, ⟨pr1 e9, pr2 e9⟩, ⟨by rw [ht]; exact hP, va_K.moved hW.alike hK, hD⟩⟩, hS.F ht⟩) hS.2.2 dX11_drive_27
  have hen : entryFrame m args 3 = entryFrame m (([.ref (hMo 99), .int p1] : List Value).toArray) 3 := by rw [hargs]
  have hl := lv_entry ([.ref (hMo 99), .int p1]) (n := 3) (Nat.le_of_ble_eq_true rfl)
  rw [hen, lg_entry_eq]
  generalize (lg_sl ([.ref (hMo 99), .int p1]) ++ List.replicate (3 - (lg_sl ([.ref (hMo 99), .int p1])).length) Slot.unset).toArray = ls at hl ⊢
  have hl : lv_has ls 3 [(0, .ref (hMo 99)), (1, .int p1)] := hl
  unfold f_X11_drive at hf
  obtain ⟨H, hHe⟩ : ∃ z, z = s.heap := ⟨_, rfl⟩
  obtain ⟨locs, hLe⟩ : ∃ z : List Loc, z = [] := ⟨_, rfl⟩
  rw [← hLe]
  have hS : va_S A s.heap H locs := by rw [hHe, hLe]; exact hS
  have hP : va_P D vwCl (wMo K hMo sMo) H := by rw [hHe]; exact hP
  have hgo : W p l e (headSpec wz_X11_drive r_X11_drive).room s m args below meth c H locs 0 0 Q (F0 m 0 ls []) := by
    refine lv_aload_n hx hb dX11_drive_0 rfl (lv_at hl 0 rfl) ?_
    obtain ⟨o1, go1, hf⟩ := bd_s hf
    refine rs_Vv (As := []) (rest := []) ⟨hx, hb, hml, hown, hts⟩ (c_X11_good l D K F hMo H.size sMo o1 go1) (cwV 0 hts (gcV_X11_good (mB18 _ (List.mem_of_getElem? (i := 7) rfl))) rfl rfl rfl hdV_X11_good ⟨Nat.le_of_ble_eq_true rfl, Nat.le_of_ble_eq_true rfl⟩) hK hP hD hS hA (va_recv hK hP (ci := 10) (q0 := 0) rfl o_Mo) rfl hl.1 rfl (Nat.le_of_ble_eq_true rfl) dX11_drive_1 ⟨Nat.zero_le _, Nat.zero_le _⟩ (fun H locs hP hD hS => ?_)
    have hP : va_P D vwCl (wMo K hMo o1) H := hP
    have hD : va_D A (wMo K hMo o1) := hD
    refine lv_aload_n hx hb dX11_drive_4 rfl (lv_at hl 0 rfl) ?_
    refine lv_iload_n hx hb dX11_drive_5 rfl (lv_at hl 1 rfl) ?_
    obtain ⟨o2, go2, hf⟩ := bd_s hf
    refine ro_Vi (As := [.int p1]) (rest := []) ⟨hx, hb, hml, hown, hts⟩ (c_X11_isPlace l D K F hMo o1 p1 o2 go2) (cwV 1 hts (gcV_X11_isPlace (mB25 _ (List.mem_of_getElem? (i := 7) rfl))) rfl rfl rfl hdV_X11_isPlace ⟨Nat.le_of_ble_eq_true rfl, Nat.le_of_ble_eq_true rfl⟩) hK hP hS hP (va_recv hK hP (ci := 10) (q0 := 0) rfl o_Mo) rfl hl.1 rfl (Nat.le_of_ble_eq_true rfl) dX11_drive_6 ⟨Nat.zero_le _, Nat.zero_le _⟩ (fun H locs hP hS => ?_)
    refine lv_if_eq (tgt := 22) hx hb dX11_drive_9 (by decide) (fun c3 => ?_) (fun c3 => ?_)
    · have hf := it_t hf c3
      exact w22 o1 H locs ls hf hP hD hS (lv_sub hl [0] rfl)
    · have hf := it_f hf c3
      refine lv_iload_n hx hb dX11_drive_12 rfl (lv_at hl 1 rfl) ?_
      refine lv_aload_n hx hb dX11_drive_13 rfl (lv_at hl 0 rfl) ?_
      refine va_get (D := D) (ci := 10) (v := .ref (hMo 18)) (C := RX11) (T := TX11) (N := 41) hx hb hts iX11 hown hK hP 0 o_Mo rfl 18 (by decide) (htl _ (mB6 _ (List.mem_of_getElem? (i := 6) rfl))) (fun _ h9 => h9) rfl dX11_drive_14 ?_
      refine lv_iconst (v := (0 : Int32)) hx hb dX11_drive_17 (by decide) ?_
      obtain ⟨g4, hf⟩ := gd_s hf
      refine va_iald hx hb hK hP 6 0 (f := o1.2.2.1 18) a_Mo_18 rfl (vpb_in g4) dX11_drive_18 ?_
      refine lv_topi (fun v5 ev5 => ?_)
      have hf := lz_s hf v5 ev5
      refine lv_icmp_ne (tgt := 28) hx hb dX11_drive_19 (by decide) (fun c6 => ?_) (fun c6 => ?_)
      · have hf := it_f hf c6
        refine lv_aload_n hx hb dX11_drive_28 rfl (lv_at hl 0 rfl) ?_
        refine lv_aload_n hx hb dX11_drive_29 rfl (lv_at hl 0 rfl) ?_
        refine va_get (D := D) (ci := 10) (v := .ref (hMo 18)) (C := RX11) (T := TX11) (N := 41) hx hb hts iX11 hown hK hP 0 o_Mo rfl 18 (by decide) (htl _ (mB6 _ (List.mem_of_getElem? (i := 6) rfl))) (fun _ h9 => h9) rfl dX11_drive_30 ?_
        refine lv_iconst (v := (0 : Int32)) hx hb dX11_drive_33 (by decide) ?_
        obtain ⟨g7, hf⟩ := gd_s hf
        refine va_iald hx hb hK hP 6 0 (f := o1.2.2.1 18) a_Mo_18 rfl (vpb_in g7) dX11_drive_34 ?_
        refine lv_topi (fun v8 ev8 => ?_)
        have hf := lz_s hf v8 ev8
        refine lv_iload_n hx hb dX11_drive_35 rfl (lv_at hl 1 rfl) ?_
        obtain ⟨o9, go9, hf⟩ := bd_s hf
        refine ro_Vi (As := [.int v8, .int p1]) (rest := []) ⟨hx, hb, hml, hown, hts⟩ (c_X11_roadOf l D K F hMo o1 v8 p1 o9 go9) (cwV 2 hts (gcV_X11_roadOf (mB25 _ (List.mem_of_getElem? (i := 11) rfl))) rfl rfl rfl hdV_X11_roadOf ⟨Nat.le_of_ble_eq_true rfl, Nat.le_of_ble_eq_true rfl⟩) hK hP hS hP (va_recv hK hP (ci := 10) (q0 := 0) rfl o_Mo) rfl hl.1 rfl (Nat.le_of_ble_eq_true rfl) dX11_drive_36 ⟨Nat.zero_le _, Nat.zero_le _⟩ (fun H locs hP hS => ?_)
        refine lv_istore_n (lv' := [(2, .int o9), (0, .ref (hMo 99)), (1, .int p1)]) hx hb dX11_drive_39 rfl hl (by decide) rfl (fun ls hl => ?_)
        refine lv_iload_n hx hb dX11_drive_40 rfl (lv_at hl 0 rfl) ?_
        refine lv_if_ne (tgt := 51) hx hb dX11_drive_41 (by decide) (fun c10 => ?_) (fun c10 => ?_)
        · have hf := it_f hf c10
          refine lv_iload_n hx hb dX11_drive_51 rfl (lv_at hl 0 rfl) ?_
          refine lv_aload_n hx hb dX11_drive_52 rfl (lv_at hl 1 rfl) ?_
          refine va_get (D := D) (ci := 10) (v := .ref (hMo 18)) (C := RX11) (T := TX11) (N := 41) hx hb hts iX11 hown hK hP 0 o_Mo rfl 18 (by decide) (htl _ (mB6 _ (List.mem_of_getElem? (i := 6) rfl))) (fun _ h9 => h9) rfl dX11_drive_53 ?_
          refine lv_iconst (v := (1 : Int32)) hx hb dX11_drive_56 (by decide) ?_
          obtain ⟨g11, hf⟩ := gd_s hf
          refine va_iald hx hb hK hP 6 0 (f := o1.2.2.1 18) a_Mo_18 rfl (vpb_in g11) dX11_drive_57 ?_
          refine lv_topi (fun v12 ev12 => ?_)
          have hf := lz_s hf v12 ev12
          refine lv_icmp_le (tgt := 67) hx hb dX11_drive_58 (by decide) (fun c13 => ?_) (fun c13 => ?_)
          · have hf := it_t hf c13
            refine lv_aload_n hx hb dX11_drive_67 rfl (lv_at hl 1 rfl) ?_
            obtain ⟨o14, go14, hf⟩ := bd_s hf
            refine rs_Vv (As := []) (rest := []) ⟨hx, hb, hml, hown, hts⟩ (c_X11_note l D K F hMo H.size o1 o14 go14) (cwV 0 hts (gcV_X11_note (mB63 _ (List.mem_of_getElem? (i := 0) rfl))) rfl rfl rfl hdV_X11_note ⟨Nat.le_of_ble_eq_true rfl, Nat.le_of_ble_eq_true rfl⟩) hK hP hD hS hA (va_recv hK hP (ci := 10) (q0 := 0) rfl o_Mo) rfl hl.1 rfl (Nat.le_of_ble_eq_true rfl) dX11_drive_68 ⟨Nat.zero_le _, Nat.zero_le _⟩ (fun H locs hP hD hS => ?_)
            have hP : va_P D vwCl (wMo K hMo o14) H := hP
            have hD : va_D A (wMo K hMo o14) := hD
            refine lv_aload_n hx hb dX11_drive_71 rfl (lv_at hl 1 rfl) ?_
            refine va_get (D := D) (ci := 10) (v := .ref (hMo 18)) (C := RX11) (T := TX11) (N := 41) hx hb hts iX11 hown hK hP 0 o_Mo rfl 18 (by decide) (htl _ (mB6 _ (List.mem_of_getElem? (i := 6) rfl))) (fun _ h9 => h9) rfl dX11_drive_72 ?_
            refine lv_iconst (v := (1 : Int32)) hx hb dX11_drive_75 (by decide) ?_
            refine lv_dup2_11 hx hb dX11_drive_76 rfl rfl ?_
            obtain ⟨g15, hf⟩ := gd_s hf
            refine va_iald hx hb hK hP 6 0 (f := o14.2.2.1 18) a_Mo_18 rfl (vpb_in g15) dX11_drive_77 ?_
            refine lv_topi (fun v16 ev16 => ?_)
            have hf := lz_s hf v16 ev16
            refine lv_iload_n hx hb dX11_drive_78 rfl (lv_at hl 0 rfl) ?_
            refine lv_isub hx hb dX11_drive_79 ?_
            obtain ⟨g17, hf⟩ := gd_s hf
            refine va_iast hx hb hK hP hD hS 6 0 (f := o14.2.2.1 18) a_Mo_18 rfl (vpb_in g17) dX11_drive_80 (fun H locs hP hD hS => ?_)
            have hP := cvP sa_Mo_18 hP
            have hD := cvD sa_Mo_18 hD
            obtain ⟨s18, es18⟩ : ∃ z, z = sA o14 18 ((1 : Int32).toNatClampNeg) (v16 - o9) := ⟨_, rfl⟩
            have hP : va_P D vwCl (wMo K hMo s18) H := by rw [es18]; exact hP
            have hD : va_D A (wMo K hMo s18) := by rw [es18]; exact hD
            have hf := lz_s hf s18 es18
            refine lv_aload_n hx hb dX11_drive_81 rfl (lv_at hl 1 rfl) ?_
            refine va_get (D := D) (ci := 10) (v := .ref (hMo 18)) (C := RX11) (T := TX11) (N := 41) hx hb hts iX11 hown hK hP 0 o_Mo rfl 18 (by decide) (htl _ (mB6 _ (List.mem_of_getElem? (i := 6) rfl))) (fun _ h9 => h9) rfl dX11_drive_82 ?_
            refine lv_iconst (v := (3 : Int32)) hx hb dX11_drive_85 (by decide) ?_
            refine lv_dup2_11 hx hb dX11_drive_86 rfl rfl ?_
            obtain ⟨g19, hf⟩ := gd_s hf
            refine va_iald hx hb hK hP 6 0 (f := s18.2.2.1 18) a_Mo_18 rfl (vpb_in g19) dX11_drive_87 ?_
            refine lv_topi (fun v20 ev20 => ?_)
            have hf := lz_s hf v20 ev20
            refine lv_aload_n hx hb dX11_drive_88 rfl (lv_at hl 1 rfl) ?_
            refine va_get (D := D) (ci := 10) (v := .ref (hMo 15)) (C := RX11) (T := TX11) (N := 41) hx hb hts iX11 hown hK hP 0 o_Mo rfl 15 (by decide) (htl _ (mB6 _ (List.mem_of_getElem? (i := 3) rfl))) (fun _ h9 => h9) rfl dX11_drive_89 ?_
            refine lv_bipush (v := (119 : Int32)) hx hb dX11_drive_92 (by decide) ?_
            refine lv_bipush (v := (9 : Int32)) hx hb dX11_drive_94 (by decide) ?_
            refine lv_aload_n hx hb dX11_drive_96 rfl (lv_at hl 1 rfl) ?_
            refine va_get (D := D) (ci := 10) (v := .ref (hMo 18)) (C := RX11) (T := TX11) (N := 41) hx hb hts iX11 hown hK hP 0 o_Mo rfl 18 (by decide) (htl _ (mB6 _ (List.mem_of_getElem? (i := 6) rfl))) (fun _ h9 => h9) rfl dX11_drive_97 ?_
            refine lv_iconst (v := (0 : Int32)) hx hb dX11_drive_100 (by decide) ?_
            obtain ⟨g21, hf⟩ := gd_s hf
            refine va_iald hx hb hK hP 6 0 (f := s18.2.2.1 18) a_Mo_18 rfl (vpb_in g21) dX11_drive_101 ?_
            refine lv_topi (fun v22 ev22 => ?_)
            have hf := lz_s hf v22 ev22
            refine lv_imul hx hb dX11_drive_102 ?_
            refine lv_iadd hx hb dX11_drive_103 ?_
            refine lv_iload_n hx hb dX11_drive_104 rfl (lv_at hl 2 rfl) ?_
            refine lv_iadd hx hb dX11_drive_105 ?_
            obtain ⟨g23, hf⟩ := gd_s hf
            refine va_iald hx hb hK hP 3 0 (f := s18.2.2.1 15) a_Mo_15 rfl (vpb_in g23) dX11_drive_106 ?_
            refine lv_topi (fun v24 ev24 => ?_)
            have hf := lz_s hf v24 ev24
            refine lv_iadd hx hb dX11_drive_107 ?_
            obtain ⟨g25, hf⟩ := gd_s hf
            refine va_iast hx hb hK hP hD hS 6 0 (f := s18.2.2.1 18) a_Mo_18 rfl (vpb_in g25) dX11_drive_108 (fun H locs hP hD hS => ?_)
            have hP := cvP sa_Mo_18 hP
            have hD := cvD sa_Mo_18 hD
            obtain ⟨s26, es26⟩ : ∃ z, z = sA s18 18 ((3 : Int32).toNatClampNeg) (v20 + v24) := ⟨_, rfl⟩
            have hP : va_P D vwCl (wMo K hMo s26) H := by rw [es26]; exact hP
            have hD : va_D A (wMo K hMo s26) := by rw [es26]; exact hD
            have hf := lz_s hf s26 es26
            refine lv_aload_n hx hb dX11_drive_109 rfl (lv_at hl 1 rfl) ?_
            refine lv_iload_n hx hb dX11_drive_110 rfl (lv_at hl 2 rfl) ?_
            obtain ⟨o27, go27, hf⟩ := bd_s hf
            refine rs_Vv (As := [.int p1]) (rest := []) ⟨hx, hb, hml, hown, hts⟩ (c_X11_comes l D K F hMo H.size s26 p1 o27 go27) (cwV 1 hts (gcV_X11_comes (mB23 _ (List.mem_of_getElem? (i := 0) rfl))) rfl rfl rfl hdV_X11_comes ⟨Nat.le_of_ble_eq_true rfl, Nat.le_of_ble_eq_true rfl⟩) hK hP hD hS hA (va_recv hK hP (ci := 10) (q0 := 0) rfl o_Mo) rfl hl.1 rfl (Nat.le_of_ble_eq_true rfl) dX11_drive_111 ⟨Nat.zero_le _, Nat.zero_le _⟩ (fun H locs hP hD hS => ?_)
            have hP : va_P D vwCl (wMo K hMo o27) H := hP
            have hD : va_D A (wMo K hMo o27) := hD
            refine lv_aload_n hx hb dX11_drive_114 rfl (lv_at hl 1 rfl) ?_
            refine va_get (D := D) (ci := 10) (v := .ref (hMo 18)) (C := RX11) (T := TX11) (N := 41) hx hb hts iX11 hown hK hP 0 o_Mo rfl 18 (by decide) (htl _ (mB6 _ (List.mem_of_getElem? (i := 6) rfl))) (fun _ h9 => h9) rfl dX11_drive_115 ?_
            refine lv_iconst (v := (1 : Int32)) hx hb dX11_drive_118 (by decide) ?_
            obtain ⟨g28, hf⟩ := gd_s hf
            refine va_iald hx hb hK hP 6 0 (f := o27.2.2.1 18) a_Mo_18 rfl (vpb_in g28) dX11_drive_119 ?_
            refine lv_topi (fun v29 ev29 => ?_)
            have hf := lz_s hf v29 ev29
            have e9 := Option.some.inj hf
            rw [hQ]
            exact W.iret (v := v29) hx hb hr (fun t ht hW => ⟨⟨v29, o27, rfl, ⟨pr1 e9, pr2 e9⟩, ⟨by rw [ht]; exact hP, va_K.moved hW.alike hK, hD⟩⟩, hS.F ht⟩) hS.2.2 dX11_drive_120
          · have hf := it_f hf c13
            refine lv_aload_n hx hb dX11_drive_61 rfl (lv_at hl 1 rfl) ?_
            refine lv_iconst (v := (5 : Int32)) hx hb dX11_drive_62 (by decide) ?_
            obtain ⟨o30, go30, hf⟩ := bd_s hf
            refine rs_Vi (As := [.int (5 : Int32)]) (rest := []) ⟨hx, hb, hml, hown, hts⟩ (c_X11_no l D K F hMo H.size o1 (5 : Int32) o30 go30) (cwV 1 hts (gcV_X11_no (mB18 _ (List.mem_of_getElem? (i := 15) rfl))) rfl rfl rfl hdV_X11_no ⟨Nat.le_of_ble_eq_true rfl, Nat.le_of_ble_eq_true rfl⟩) hK hP hD hS hA (va_recv hK hP (ci := 10) (q0 := 0) rfl o_Mo) rfl hl.1 rfl (Nat.le_of_ble_eq_true rfl) dX11_drive_63 ⟨Nat.zero_le _, Nat.zero_le _⟩ (fun H locs hP hD hS => ?_)
            have hP : va_P D vwCl (wMo K hMo o30.2) H := hP
            have hD : va_D A (wMo K hMo o30.2) := hD
            have e9 := Option.some.inj hf
            rw [hQ]
            exact W.iret (v := o30.1) hx hb hr (fun t ht hW => ⟨⟨o30.1, o30.2, rfl, ⟨pr1 e9, pr2 e9⟩, ⟨by rw [ht]; exact hP, va_K.moved hW.alike hK, hD⟩⟩, hS.F ht⟩) hS.2.2 dX11_drive_66
        · have hf := it_t hf c10
          refine lv_aload_n hx hb dX11_drive_44 rfl (lv_at hl 1 rfl) ?_
          refine lv_bipush (v := (6 : Int32)) hx hb dX11_drive_45 (by decide) ?_
          obtain ⟨o31, go31, hf⟩ := bd_s hf
          refine rs_Vi (As := [.int (6 : Int32)]) (rest := []) ⟨hx, hb, hml, hown, hts⟩ (c_X11_no l D K F hMo H.size o1 (6 : Int32) o31 go31) (cwV 1 hts (gcV_X11_no (mB18 _ (List.mem_of_getElem? (i := 15) rfl))) rfl rfl rfl hdV_X11_no ⟨Nat.le_of_ble_eq_true rfl, Nat.le_of_ble_eq_true rfl⟩) hK hP hD hS hA (va_recv hK hP (ci := 10) (q0 := 0) rfl o_Mo) rfl hl.1 rfl (Nat.le_of_ble_eq_true rfl) dX11_drive_47 ⟨Nat.zero_le _, Nat.zero_le _⟩ (fun H locs hP hD hS => ?_)
          have hP : va_P D vwCl (wMo K hMo o31.2) H := hP
          have hD : va_D A (wMo K hMo o31.2) := hD
          have e9 := Option.some.inj hf
          rw [hQ]
          exact W.iret (v := o31.1) hx hb hr (fun t ht hW => ⟨⟨o31.1, o31.2, rfl, ⟨pr1 e9, pr2 e9⟩, ⟨by rw [ht]; exact hP, va_K.moved hW.alike hK, hD⟩⟩, hS.F ht⟩) hS.2.2 dX11_drive_50
      · have hf := it_t hf c6
        exact w22 o1 H locs ls hf hP hD hS (lv_sub hl [0] rfl)
  rw [hHe] at hgo
  exact hgo

def wz_X11_waits : List Cond := .code yX11_waits cX11_waits 1 (some .int) :: wsL_law
abbrev r_X11_waits : Room := { frames := 3, cells := 0, slots := 0, locals := 66 }
set_option maxHeartbeats 4000000 in
set_option maxRecDepth 100000 in
theorem c_X11_waits (l : Launch) (D : va_G) (K : Nat → ClassId) (F : Nat) (hMo : Nat → Nat) (sz : Nat) (sMo : MS) (res : Int32 × MS) (hf : f_X11_waits F sMo = some res) : Met l yX11_waits wz_X11_waits r_X11_waits (va_Pc [.ref (hMo 99)] (PW D K (wMo K hMo sMo) sz)) (va_Qi (fun r u => r = res.1 ∧ u = res.2) (fun u t => BW D K (va_A (wMo K hMo sMo) sz) (wMo K hMo u) t) (va_A (wMo K hMo sMo) sz)) 0 0 (va_A (wMo K hMo sMo) sz) := by
  refine Met.ofW (cc := cX11_waits) (maxL := 1) (ret := (some .int)) (by decide) rfl ?_
  intro p e s m args below meth c s₁ B hml hv
  obtain ⟨hargs, hsz, hP, hK, hD0⟩ := hv
  have hx := B.exec
  have hb := B.bytes
  have hr := B.returns
  have hts := atoms_spec (ws := wz_X11_waits) B.pre
  have htl : ∀ w ∈ wsL_law, w.before args s = true := fun w h => hts w (List.mem_cons_of_mem _ h)
  have hown : s.vm.findClass RX11 = some m.cls := findClass_of_methodNamed B.named
  have hlocks := B.notSynchronized
  subst hsz
  have hD := hD0.self (sz := s.heap.size)
  generalize hAe : va_A (wMo K hMo sMo) s.heap.size = A at hD ⊢
  have hA : ∀ q : Nat, s.heap.size ≤ q → A q := fun q h => by rw [← hAe]; exact Or.inr h
  have hS : va_S A s.heap s.heap [] := va_S.rf
  have iX11 : ∀ w ∈ wsX110, w ∈ wz_X11_waits := fun w h => List.mem_cons_of_mem _ (inlX11 w h)
  suffices hgo : ∀ Q : State → Prop, Q = MQ below (va_Qi (fun r u => r = res.1 ∧ u = res.2) (fun u t => BW D K A (wMo K hMo u) t) A) args s 0 0 A → W p l e (headSpec wz_X11_waits r_X11_waits).room s m args below meth c s.heap [] 0 0 Q (entryFrame m args 1) from hgo _ rfl
  intro Q hQ
  have hen : entryFrame m args 1 = entryFrame m (([.ref (hMo 99)] : List Value).toArray) 1 := by rw [hargs]
  have hl := lv_entry ([.ref (hMo 99)]) (n := 1) (Nat.le_of_ble_eq_true rfl)
  rw [hen, lg_entry_eq]
  generalize (lg_sl ([.ref (hMo 99)]) ++ List.replicate (1 - (lg_sl ([.ref (hMo 99)])).length) Slot.unset).toArray = ls at hl ⊢
  have hl : lv_has ls 1 [(0, .ref (hMo 99))] := hl
  unfold f_X11_waits at hf
  obtain ⟨H, hHe⟩ : ∃ z, z = s.heap := ⟨_, rfl⟩
  obtain ⟨locs, hLe⟩ : ∃ z : List Loc, z = [] := ⟨_, rfl⟩
  rw [← hLe]
  have hS : va_S A s.heap H locs := by rw [hHe, hLe]; exact hS
  have hP : va_P D vwCl (wMo K hMo sMo) H := by rw [hHe]; exact hP
  have hgo : W p l e (headSpec wz_X11_waits r_X11_waits).room s m args below meth c H locs 0 0 Q (F0 m 0 ls []) := by
    refine lv_aload_n hx hb dX11_waits_0 rfl (lv_at hl 0 rfl) ?_
    obtain ⟨o1, go1, hf⟩ := bd_s hf
    refine rs_Vv (As := []) (rest := []) ⟨hx, hb, hml, hown, hts⟩ (c_X11_good l D K F hMo H.size sMo o1 go1) (cwV 0 hts (gcV_X11_good (mB18 _ (List.mem_of_getElem? (i := 7) rfl))) rfl rfl rfl hdV_X11_good ⟨Nat.le_of_ble_eq_true rfl, Nat.le_of_ble_eq_true rfl⟩) hK hP hD hS hA (va_recv hK hP (ci := 10) (q0 := 0) rfl o_Mo) rfl hl.1 rfl (Nat.le_of_ble_eq_true rfl) dX11_waits_1 ⟨Nat.zero_le _, Nat.zero_le _⟩ (fun H locs hP hD hS => ?_)
    have hP : va_P D vwCl (wMo K hMo o1) H := hP
    have hD : va_D A (wMo K hMo o1) := hD
    refine lv_aload_n hx hb dX11_waits_4 rfl (lv_at hl 0 rfl) ?_
    refine va_get (D := D) (ci := 10) (v := .int (o1.1 14)) (C := RX11) (T := TX11) (N := 41) hx hb hts iX11 hown hK hP 0 o_Mo rfl 14 (by decide) (htl _ (mB18 _ (List.mem_of_getElem? (i := 4) rfl))) (fun _ h9 => h9) rfl dX11_waits_5 ?_
    refine lv_if_ne (tgt := 17) hx hb dX11_waits_8 (by decide) (fun c2 => ?_) (fun c2 => ?_)
    · have hf := it_f hf c2
      refine lv_aload_n hx hb dX11_waits_17 rfl (lv_at hl 0 rfl) ?_
      obtain ⟨o3, go3, hf⟩ := bd_s hf
      refine rs_Vv (As := []) (rest := []) ⟨hx, hb, hml, hown, hts⟩ (c_X11_note l D K F hMo H.size o1 o3 go3) (cwV 0 hts (gcV_X11_note (mB63 _ (List.mem_of_getElem? (i := 0) rfl))) rfl rfl rfl hdV_X11_note ⟨Nat.le_of_ble_eq_true rfl, Nat.le_of_ble_eq_true rfl⟩) hK hP hD hS hA (va_recv hK hP (ci := 10) (q0 := 0) rfl o_Mo) rfl hl.1 rfl (Nat.le_of_ble_eq_true rfl) dX11_waits_18 ⟨Nat.zero_le _, Nat.zero_le _⟩ (fun H locs hP hD hS => ?_)
      have hP : va_P D vwCl (wMo K hMo o3) H := hP
      have hD : va_D A (wMo K hMo o3) := hD
      refine lv_aload_n hx hb dX11_waits_21 rfl (lv_at hl 0 rfl) ?_
      refine va_get (D := D) (ci := 10) (v := .ref (hMo 18)) (C := RX11) (T := TX11) (N := 41) hx hb hts iX11 hown hK hP 0 o_Mo rfl 18 (by decide) (htl _ (mB6 _ (List.mem_of_getElem? (i := 6) rfl))) (fun _ h9 => h9) rfl dX11_waits_22 ?_
      refine lv_iconst (v := (3 : Int32)) hx hb dX11_waits_25 (by decide) ?_
      refine lv_dup2_11 hx hb dX11_waits_26 rfl rfl ?_
      obtain ⟨g4, hf⟩ := gd_s hf
      refine va_iald hx hb hK hP 6 0 (f := o3.2.2.1 18) a_Mo_18 rfl (vpb_in g4) dX11_waits_27 ?_
      refine lv_topi (fun v5 ev5 => ?_)
      have hf := lz_s hf v5 ev5
      refine lv_bipush (v := (10 : Int32)) hx hb dX11_waits_28 (by decide) ?_
      refine lv_iadd hx hb dX11_waits_30 ?_
      obtain ⟨g6, hf⟩ := gd_s hf
      refine va_iast hx hb hK hP hD hS 6 0 (f := o3.2.2.1 18) a_Mo_18 rfl (vpb_in g6) dX11_waits_31 (fun H locs hP hD hS => ?_)
      have hP := cvP sa_Mo_18 hP
      have hD := cvD sa_Mo_18 hD
      obtain ⟨s7, es7⟩ : ∃ z, z = sA o3 18 ((3 : Int32).toNatClampNeg) (v5 + (10 : Int32)) := ⟨_, rfl⟩
      have hP : va_P D vwCl (wMo K hMo s7) H := by rw [es7]; exact hP
      have hD : va_D A (wMo K hMo s7) := by rw [es7]; exact hD
      have hf := lz_s hf s7 es7
      refine lv_aload_n hx hb dX11_waits_32 rfl (lv_at hl 0 rfl) ?_
      refine lv_aload_n hx hb dX11_waits_33 rfl (lv_at hl 0 rfl) ?_
      refine va_get (D := D) (ci := 10) (v := .ref (hMo 18)) (C := RX11) (T := TX11) (N := 41) hx hb hts iX11 hown hK hP 0 o_Mo rfl 18 (by decide) (htl _ (mB6 _ (List.mem_of_getElem? (i := 6) rfl))) (fun _ h9 => h9) rfl dX11_waits_34 ?_
      refine lv_iconst (v := (0 : Int32)) hx hb dX11_waits_37 (by decide) ?_
      obtain ⟨g8, hf⟩ := gd_s hf
      refine va_iald hx hb hK hP 6 0 (f := s7.2.2.1 18) a_Mo_18 rfl (vpb_in g8) dX11_waits_38 ?_
      refine lv_topi (fun v9 ev9 => ?_)
      have hf := lz_s hf v9 ev9
      obtain ⟨o10, go10, hf⟩ := bd_s hf
      refine rs_Vv (As := [.int v9]) (rest := []) ⟨hx, hb, hml, hown, hts⟩ (c_X11_comes l D K F hMo H.size s7 v9 o10 go10) (cwV 1 hts (gcV_X11_comes (mB23 _ (List.mem_of_getElem? (i := 0) rfl))) rfl rfl rfl hdV_X11_comes ⟨Nat.le_of_ble_eq_true rfl, Nat.le_of_ble_eq_true rfl⟩) hK hP hD hS hA (va_recv hK hP (ci := 10) (q0 := 0) rfl o_Mo) rfl hl.1 rfl (Nat.le_of_ble_eq_true rfl) dX11_waits_39 ⟨Nat.zero_le _, Nat.zero_le _⟩ (fun H locs hP hD hS => ?_)
      have hP : va_P D vwCl (wMo K hMo o10) H := hP
      have hD : va_D A (wMo K hMo o10) := hD
      refine lv_aload_n hx hb dX11_waits_42 rfl (lv_at hl 0 rfl) ?_
      refine va_get (D := D) (ci := 10) (v := .ref (hMo 18)) (C := RX11) (T := TX11) (N := 41) hx hb hts iX11 hown hK hP 0 o_Mo rfl 18 (by decide) (htl _ (mB6 _ (List.mem_of_getElem? (i := 6) rfl))) (fun _ h9 => h9) rfl dX11_waits_43 ?_
      refine lv_iconst (v := (4 : Int32)) hx hb dX11_waits_46 (by decide) ?_
      obtain ⟨g11, hf⟩ := gd_s hf
      refine va_iald hx hb hK hP 6 0 (f := o10.2.2.1 18) a_Mo_18 rfl (vpb_in g11) dX11_waits_47 ?_
      refine lv_topi (fun v12 ev12 => ?_)
      have hf := lz_s hf v12 ev12
      refine lv_if_ne (tgt := 56) hx hb dX11_waits_48 (by decide) (fun c13 => ?_) (fun c13 => ?_)
      · have hf := it_f hf c13
        refine lv_aload_n hx hb dX11_waits_56 rfl (lv_at hl 0 rfl) ?_
        refine va_get (D := D) (ci := 10) (v := .ref (hMo 18)) (C := RX11) (T := TX11) (N := 41) hx hb hts iX11 hown hK hP 0 o_Mo rfl 18 (by decide) (htl _ (mB6 _ (List.mem_of_getElem? (i := 6) rfl))) (fun _ h9 => h9) rfl dX11_waits_57 ?_
        refine lv_iconst (v := (4 : Int32)) hx hb dX11_waits_60 (by decide) ?_
        obtain ⟨g14, hf⟩ := gd_s hf
        refine va_iald hx hb hK hP 6 0 (f := o10.2.2.1 18) a_Mo_18 rfl (vpb_in g14) dX11_waits_61 ?_
        refine lv_topi (fun v15 ev15 => ?_)
        have hf := lz_s hf v15 ev15
        have e9 := Option.some.inj hf
        rw [hQ]
        exact W.iret (v := v15) hx hb hr (fun t ht hW => ⟨⟨v15, o10, rfl, ⟨pr1 e9, pr2 e9⟩, ⟨by rw [ht]; exact hP, va_K.moved hW.alike hK, hD⟩⟩, hS.F ht⟩) hS.2.2 dX11_waits_62
      · have hf := it_t hf c13
        refine lv_bipush (v := (-2 : Int32)) hx hb dX11_waits_51 (by decide) ?_
        refine lv_goto (tgt := 62) hx hb dX11_waits_53 (by decide) ?_
        have e9 := Option.some.inj hf
        rw [hQ]
        exact W.iret (v := (-2 : Int32)) hx hb hr (fun t ht hW => ⟨⟨(-2 : Int32), o10, rfl, ⟨pr1 e9, pr2 e9⟩, ⟨by rw [ht]; exact hP, va_K.moved hW.alike hK, hD⟩⟩, hS.F ht⟩) hS.2.2 dX11_waits_62
    · have hf := it_t hf c2
      refine lv_aload_n hx hb dX11_waits_11 rfl (lv_at hl 0 rfl) ?_
      refine lv_iconst (v := (1 : Int32)) hx hb dX11_waits_12 (by decide) ?_
      obtain ⟨o16, go16, hf⟩ := bd_s hf
      refine rs_Vi (As := [.int (1 : Int32)]) (rest := []) ⟨hx, hb, hml, hown, hts⟩ (c_X11_no l D K F hMo H.size o1 (1 : Int32) o16 go16) (cwV 1 hts (gcV_X11_no (mB18 _ (List.mem_of_getElem? (i := 15) rfl))) rfl rfl rfl hdV_X11_no ⟨Nat.le_of_ble_eq_true rfl, Nat.le_of_ble_eq_true rfl⟩) hK hP hD hS hA (va_recv hK hP (ci := 10) (q0 := 0) rfl o_Mo) rfl hl.1 rfl (Nat.le_of_ble_eq_true rfl) dX11_waits_13 ⟨Nat.zero_le _, Nat.zero_le _⟩ (fun H locs hP hD hS => ?_)
      have hP : va_P D vwCl (wMo K hMo o16.2) H := hP
      have hD : va_D A (wMo K hMo o16.2) := hD
      have e9 := Option.some.inj hf
      rw [hQ]
      exact W.iret (v := o16.1) hx hb hr (fun t ht hW => ⟨⟨o16.1, o16.2, rfl, ⟨pr1 e9, pr2 e9⟩, ⟨by rw [ht]; exact hP, va_K.moved hW.alike hK, hD⟩⟩, hS.F ht⟩) hS.2.2 dX11_waits_16
  rw [hHe] at hgo
  exact hgo

def wz_X11_seed : List Cond := .code yX11_seed cX11_seed 2 (some .boolean) :: wsL_law
abbrev r_X11_seed : Room := { frames := 1, cells := 0, slots := 0, locals := 22 }
set_option maxHeartbeats 4000000 in
set_option maxRecDepth 100000 in
theorem c_X11_seed (l : Launch) (D : va_G) (K : Nat → ClassId) (F : Nat) (hMo : Nat → Nat) (sz : Nat) (sMo : MS) (p1 : Int32) (res : Int32 × MS) (hf : f_X11_seed F p1 sMo = some res) : Met l yX11_seed wz_X11_seed r_X11_seed (va_Pc [.ref (hMo 99), .int p1] (PW D K (wMo K hMo sMo) sz)) (va_Qi (fun r u => r = res.1 ∧ u = res.2) (fun u t => BW D K (va_A (wMo K hMo sMo) sz) (wMo K hMo u) t) (va_A (wMo K hMo sMo) sz)) 0 0 (va_A (wMo K hMo sMo) sz) := by
  refine Met.ofW (cc := cX11_seed) (maxL := 2) (ret := (some .boolean)) (by decide) rfl ?_
  intro p e s m args below meth c s₁ B hml hv
  obtain ⟨hargs, hsz, hP, hK, hD0⟩ := hv
  have hx := B.exec
  have hb := B.bytes
  have hr := B.returns
  have hts := atoms_spec (ws := wz_X11_seed) B.pre
  have htl : ∀ w ∈ wsL_law, w.before args s = true := fun w h => hts w (List.mem_cons_of_mem _ h)
  have hown : s.vm.findClass RX11 = some m.cls := findClass_of_methodNamed B.named
  have hlocks := B.notSynchronized
  subst hsz
  have hD := hD0.self (sz := s.heap.size)
  generalize hAe : va_A (wMo K hMo sMo) s.heap.size = A at hD ⊢
  have hA : ∀ q : Nat, s.heap.size ≤ q → A q := fun q h => by rw [← hAe]; exact Or.inr h
  have hS : va_S A s.heap s.heap [] := va_S.rf
  have iX11 : ∀ w ∈ wsX110, w ∈ wz_X11_seed := fun w h => List.mem_cons_of_mem _ (inlX11 w h)
  suffices hgo : ∀ Q : State → Prop, Q = MQ below (va_Qi (fun r u => r = res.1 ∧ u = res.2) (fun u t => BW D K A (wMo K hMo u) t) A) args s 0 0 A → W p l e (headSpec wz_X11_seed r_X11_seed).room s m args below meth c s.heap [] 0 0 Q (entryFrame m args 2) from hgo _ rfl
  intro Q hQ
  have hen : entryFrame m args 2 = entryFrame m (([.ref (hMo 99), .int p1] : List Value).toArray) 2 := by rw [hargs]
  have hl := lv_entry ([.ref (hMo 99), .int p1]) (n := 2) (Nat.le_of_ble_eq_true rfl)
  rw [hen, lg_entry_eq]
  generalize (lg_sl ([.ref (hMo 99), .int p1]) ++ List.replicate (2 - (lg_sl ([.ref (hMo 99), .int p1])).length) Slot.unset).toArray = ls at hl ⊢
  have hl : lv_has ls 2 [(0, .ref (hMo 99)), (1, .int p1)] := hl
  unfold f_X11_seed at hf
  obtain ⟨H, hHe⟩ : ∃ z, z = s.heap := ⟨_, rfl⟩
  obtain ⟨locs, hLe⟩ : ∃ z : List Loc, z = [] := ⟨_, rfl⟩
  rw [← hLe]
  have hS : va_S A s.heap H locs := by rw [hHe, hLe]; exact hS
  have hP : va_P D vwCl (wMo K hMo sMo) H := by rw [hHe]; exact hP
  have hgo : W p l e (headSpec wz_X11_seed r_X11_seed).room s m args below meth c H locs 0 0 Q (F0 m 0 ls []) := by
    refine lv_aload_n hx hb dX11_seed_0 rfl (lv_at hl 0 rfl) ?_
    obtain ⟨o1, go1, hf⟩ := bd_s hf
    refine rs_Vv (As := []) (rest := []) ⟨hx, hb, hml, hown, hts⟩ (c_X11_good l D K F hMo H.size sMo o1 go1) (cwV 0 hts (gcV_X11_good (mB18 _ (List.mem_of_getElem? (i := 7) rfl))) rfl rfl rfl hdV_X11_good ⟨Nat.le_of_ble_eq_true rfl, Nat.le_of_ble_eq_true rfl⟩) hK hP hD hS hA (va_recv hK hP (ci := 10) (q0 := 0) rfl o_Mo) rfl hl.1 rfl (Nat.le_of_ble_eq_true rfl) dX11_seed_1 ⟨Nat.zero_le _, Nat.zero_le _⟩ (fun H locs hP hD hS => ?_)
    have hP : va_P D vwCl (wMo K hMo o1) H := hP
    have hD : va_D A (wMo K hMo o1) := hD
    refine lv_aload_n hx hb dX11_seed_4 rfl (lv_at hl 0 rfl) ?_
    refine va_get (D := D) (ci := 10) (v := .int (o1.1 14)) (C := RX11) (T := TX11) (N := 41) hx hb hts iX11 hown hK hP 0 o_Mo rfl 14 (by decide) (htl _ (mB18 _ (List.mem_of_getElem? (i := 4) rfl))) (fun _ h9 => h9) rfl dX11_seed_5 ?_
    refine lv_if_ne (tgt := 17) hx hb dX11_seed_8 (by decide) (fun c2 => ?_) (fun c2 => ?_)
    · have hf := it_f hf c2
      refine lv_iload_n hx hb dX11_seed_17 rfl (lv_at hl 1 rfl) ?_
      refine lv_iconst (v := (0 : Int32)) hx hb dX11_seed_18 (by decide) ?_
      refine lv_ldcw (v := (65536 : Int32)) hx hb hown (htl _ (mB60 _ (List.mem_of_getElem? (i := 21) rfl))) dX11_seed_19 ?_
      obtain ⟨o3, go3, hf⟩ := bd_s hf
      refine ro_Si (As := [.int p1, .int (0 : Int32), .int (65536 : Int32)]) (rest := []) ⟨hx, hb, hml, hown, hts⟩ (c_X11_in l D K F p1 (0 : Int32) (65536 : Int32) o3 go3) (va_cwS 3 hts (gcS_X11_in (mB18 _ (List.mem_of_getElem? (i := 12) rfl))) rfl rfl rfl hdS_X11_in ⟨Nat.le_of_ble_eq_true rfl, Nat.le_of_ble_eq_true rfl⟩) hK hP hS va_Pnil rfl hl.1 rfl (Nat.le_of_ble_eq_true rfl) dX11_seed_22 ⟨Nat.zero_le _, Nat.zero_le _⟩ (fun H locs hP hS => ?_)
      refine lv_if_ne (tgt := 34) hx hb dX11_seed_25 (by decide) (fun c4 => ?_) (fun c4 => ?_)
      · have hf := it_f hf c4
        refine lv_aload_n hx hb dX11_seed_34 rfl (lv_at hl 0 rfl) ?_
        refine va_get (D := D) (ci := 10) (v := .ref (hMo 18)) (C := RX11) (T := TX11) (N := 41) hx hb hts iX11 hown hK hP 0 o_Mo rfl 18 (by decide) (htl _ (mB6 _ (List.mem_of_getElem? (i := 6) rfl))) (fun _ h9 => h9) rfl dX11_seed_35 ?_
        refine lv_bipush (v := (6 : Int32)) hx hb dX11_seed_38 (by decide) ?_
        refine lv_iload_n hx hb dX11_seed_40 rfl (lv_at hl 1 rfl) ?_
        obtain ⟨g5, hf⟩ := gd_s hf
        refine va_iast hx hb hK hP hD hS 6 0 (f := o1.2.2.1 18) a_Mo_18 rfl (vpb_in g5) dX11_seed_41 (fun H locs hP hD hS => ?_)
        have hP := cvP sa_Mo_18 hP
        have hD := cvD sa_Mo_18 hD
        obtain ⟨s6, es6⟩ : ∃ z, z = sA o1 18 ((6 : Int32).toNatClampNeg) p1 := ⟨_, rfl⟩
        have hP : va_P D vwCl (wMo K hMo s6) H := by rw [es6]; exact hP
        have hD : va_D A (wMo K hMo s6) := by rw [es6]; exact hD
        have hf := lz_s hf s6 es6
        refine lv_iconst (v := (1 : Int32)) hx hb dX11_seed_42 (by decide) ?_
        have e9 := Option.some.inj hf
        rw [hQ]
        exact W.zret (v := (1 : Int32)) hx hb hr rfl (fun t ht hW => ⟨⟨(1 : Int32), s6, rfl, ⟨pr1 e9, pr2 e9⟩, ⟨by rw [ht]; exact hP, va_K.moved hW.alike hK, hD⟩⟩, hS.F ht⟩) hS.2.2 dX11_seed_43
      · have hf := it_t hf c4
        refine lv_aload_n hx hb dX11_seed_28 rfl (lv_at hl 0 rfl) ?_
        refine lv_iconst (v := (2 : Int32)) hx hb dX11_seed_29 (by decide) ?_
        obtain ⟨o7, go7, hf⟩ := bd_s hf
        refine rs_Vi (As := [.int (2 : Int32)]) (rest := []) ⟨hx, hb, hml, hown, hts⟩ (c_X11_isNot l D K F hMo H.size o1 (2 : Int32) o7 go7) (cwV 1 hts (gcV_X11_isNot (mB29 _ (List.mem_of_getElem? (i := 16) rfl))) rfl rfl rfl hdV_X11_isNot ⟨Nat.le_of_ble_eq_true rfl, Nat.le_of_ble_eq_true rfl⟩) hK hP hD hS hA (va_recv hK hP (ci := 10) (q0 := 0) rfl o_Mo) rfl hl.1 rfl (Nat.le_of_ble_eq_true rfl) dX11_seed_30 ⟨Nat.zero_le _, Nat.zero_le _⟩ (fun H locs hP hD hS => ?_)
        have hP : va_P D vwCl (wMo K hMo o7.2) H := hP
        have hD : va_D A (wMo K hMo o7.2) := hD
        obtain ⟨g8, hf⟩ := gd_s hf
        have e9 := Option.some.inj hf
        rw [hQ]
        exact W.zret (v := o7.1) hx hb hr (bob_s g8) (fun t ht hW => ⟨⟨o7.1, o7.2, rfl, ⟨pr1 e9, pr2 e9⟩, ⟨by rw [ht]; exact hP, va_K.moved hW.alike hK, hD⟩⟩, hS.F ht⟩) hS.2.2 dX11_seed_33
    · have hf := it_t hf c2
      refine lv_aload_n hx hb dX11_seed_11 rfl (lv_at hl 0 rfl) ?_
      refine lv_iconst (v := (1 : Int32)) hx hb dX11_seed_12 (by decide) ?_
      obtain ⟨o9, go9, hf⟩ := bd_s hf
      refine rs_Vi (As := [.int (1 : Int32)]) (rest := []) ⟨hx, hb, hml, hown, hts⟩ (c_X11_isNot l D K F hMo H.size o1 (1 : Int32) o9 go9) (cwV 1 hts (gcV_X11_isNot (mB29 _ (List.mem_of_getElem? (i := 16) rfl))) rfl rfl rfl hdV_X11_isNot ⟨Nat.le_of_ble_eq_true rfl, Nat.le_of_ble_eq_true rfl⟩) hK hP hD hS hA (va_recv hK hP (ci := 10) (q0 := 0) rfl o_Mo) rfl hl.1 rfl (Nat.le_of_ble_eq_true rfl) dX11_seed_13 ⟨Nat.zero_le _, Nat.zero_le _⟩ (fun H locs hP hD hS => ?_)
      have hP : va_P D vwCl (wMo K hMo o9.2) H := hP
      have hD : va_D A (wMo K hMo o9.2) := hD
      obtain ⟨g10, hf⟩ := gd_s hf
      have e9 := Option.some.inj hf
      rw [hQ]
      exact W.zret (v := o9.1) hx hb hr (bob_s g10) (fun t ht hW => ⟨⟨o9.1, o9.2, rfl, ⟨pr1 e9, pr2 e9⟩, ⟨by rw [ht]; exact hP, va_K.moved hW.alike hK, hD⟩⟩, hS.F ht⟩) hS.2.2 dX11_seed_16
  rw [hHe] at hgo
  exact hgo

def wz_X11_undo : List Cond := .code yX11_undo cX11_undo 1 (some .boolean) :: wsL_law
abbrev r_X11_undo : Room := { frames := 1, cells := 0, slots := 0, locals := 25 }
set_option maxHeartbeats 4000000 in
set_option maxRecDepth 100000 in
theorem c_X11_undo (l : Launch) (D : va_G) (K : Nat → ClassId) (F : Nat) (hMo : Nat → Nat) (sz : Nat) (sMo : MS) (res : Int32 × MS) (hf : f_X11_undo F sMo = some res) : Met l yX11_undo wz_X11_undo r_X11_undo (va_Pc [.ref (hMo 99)] (PW D K (wMo K hMo sMo) sz)) (va_Qi (fun r u => r = res.1 ∧ u = res.2) (fun u t => BW D K (va_A (wMo K hMo sMo) sz) (wMo K hMo u) t) (va_A (wMo K hMo sMo) sz)) 0 0 (va_A (wMo K hMo sMo) sz) := by
  refine Met.ofW (cc := cX11_undo) (maxL := 1) (ret := (some .boolean)) (by decide) rfl ?_
  intro p e s m args below meth c s₁ B hml hv
  obtain ⟨hargs, hsz, hP, hK, hD0⟩ := hv
  have hx := B.exec
  have hb := B.bytes
  have hr := B.returns
  have hts := atoms_spec (ws := wz_X11_undo) B.pre
  have htl : ∀ w ∈ wsL_law, w.before args s = true := fun w h => hts w (List.mem_cons_of_mem _ h)
  have hown : s.vm.findClass RX11 = some m.cls := findClass_of_methodNamed B.named
  have hlocks := B.notSynchronized
  subst hsz
  have hD := hD0.self (sz := s.heap.size)
  generalize hAe : va_A (wMo K hMo sMo) s.heap.size = A at hD ⊢
  have hA : ∀ q : Nat, s.heap.size ≤ q → A q := fun q h => by rw [← hAe]; exact Or.inr h
  have hS : va_S A s.heap s.heap [] := va_S.rf
  have iX11 : ∀ w ∈ wsX110, w ∈ wz_X11_undo := fun w h => List.mem_cons_of_mem _ (inlX11 w h)
  suffices hgo : ∀ Q : State → Prop, Q = MQ below (va_Qi (fun r u => r = res.1 ∧ u = res.2) (fun u t => BW D K A (wMo K hMo u) t) A) args s 0 0 A → W p l e (headSpec wz_X11_undo r_X11_undo).room s m args below meth c s.heap [] 0 0 Q (entryFrame m args 1) from hgo _ rfl
  intro Q hQ
  have hen : entryFrame m args 1 = entryFrame m (([.ref (hMo 99)] : List Value).toArray) 1 := by rw [hargs]
  have hl := lv_entry ([.ref (hMo 99)]) (n := 1) (Nat.le_of_ble_eq_true rfl)
  rw [hen, lg_entry_eq]
  generalize (lg_sl ([.ref (hMo 99)]) ++ List.replicate (1 - (lg_sl ([.ref (hMo 99)])).length) Slot.unset).toArray = ls at hl ⊢
  have hl : lv_has ls 1 [(0, .ref (hMo 99))] := hl
  unfold f_X11_undo at hf
  obtain ⟨H, hHe⟩ : ∃ z, z = s.heap := ⟨_, rfl⟩
  obtain ⟨locs, hLe⟩ : ∃ z : List Loc, z = [] := ⟨_, rfl⟩
  rw [← hLe]
  have hS : va_S A s.heap H locs := by rw [hHe, hLe]; exact hS
  have hP : va_P D vwCl (wMo K hMo sMo) H := by rw [hHe]; exact hP
  have hgo : W p l e (headSpec wz_X11_undo r_X11_undo).room s m args below meth c H locs 0 0 Q (F0 m 0 ls []) := by
    refine lv_aload_n hx hb dX11_undo_0 rfl (lv_at hl 0 rfl) ?_
    obtain ⟨o1, go1, hf⟩ := bd_s hf
    refine rs_Vv (As := []) (rest := []) ⟨hx, hb, hml, hown, hts⟩ (c_X11_good l D K F hMo H.size sMo o1 go1) (cwV 0 hts (gcV_X11_good (mB18 _ (List.mem_of_getElem? (i := 7) rfl))) rfl rfl rfl hdV_X11_good ⟨Nat.le_of_ble_eq_true rfl, Nat.le_of_ble_eq_true rfl⟩) hK hP hD hS hA (va_recv hK hP (ci := 10) (q0 := 0) rfl o_Mo) rfl hl.1 rfl (Nat.le_of_ble_eq_true rfl) dX11_undo_1 ⟨Nat.zero_le _, Nat.zero_le _⟩ (fun H locs hP hD hS => ?_)
    have hP : va_P D vwCl (wMo K hMo o1) H := hP
    have hD : va_D A (wMo K hMo o1) := hD
    refine lv_aload_n hx hb dX11_undo_4 rfl (lv_at hl 0 rfl) ?_
    refine va_get (D := D) (ci := 10) (v := .int (o1.1 21)) (C := RX11) (T := TX11) (N := 41) hx hb hts iX11 hown hK hP 0 o_Mo rfl 21 (by decide) (htl _ (mB18 _ (List.mem_of_getElem? (i := 5) rfl))) (fun _ h9 => h9) rfl dX11_undo_5 ?_
    refine lv_if_ne (tgt := 18) hx hb dX11_undo_8 (by decide) (fun c2 => ?_) (fun c2 => ?_)
    · have hf := it_f hf c2
      refine lv_aload_n hx hb dX11_undo_18 rfl (lv_at hl 0 rfl) ?_
      refine lv_dup hx hb dX11_undo_19 rfl ?_
      refine va_get (D := D) (ci := 10) (v := .int (o1.1 21)) (C := RX11) (T := TX11) (N := 41) hx hb hts iX11 hown hK hP 0 o_Mo rfl 21 (by decide) (htl _ (mB18 _ (List.mem_of_getElem? (i := 5) rfl))) (fun _ h9 => h9) rfl dX11_undo_20 ?_
      refine lv_iconst (v := (1 : Int32)) hx hb dX11_undo_23 (by decide) ?_
      refine lv_isub hx hb dX11_undo_24 ?_
      refine lv_topi (fun v3 ev3 => ?_)
      have hf := lz_s hf v3 ev3
      refine va_put (D := D) (ci := 10) (v := .int v3) (ty := .int) (C := RX11) (T := TX11) (N := 41) hx hb hts iX11 tyX11 tyX11_ok nmX11 hown hK hP hD hS 0 o_Mo rfl 21 (by decide) (htl _ (mB18 _ (List.mem_of_getElem? (i := 5) rfl))) (fun _ h9 => h9) rfl (by decide +kernel) rfl rfl (Nat.le_of_ble_eq_true rfl) dX11_undo_25 (fun H locs hP hD hS => ?_)
      have hP := cvP si_Mo_21 hP
      have hD := cvD si_Mo_21 hD
      obtain ⟨s4, es4⟩ : ∃ z, z = sI o1 21 v3 := ⟨_, rfl⟩
      have hP : va_P D vwCl (wMo K hMo s4) H := by rw [es4]; exact hP
      have hD : va_D A (wMo K hMo s4) := by rw [es4]; exact hD
      have hf := lz_s hf s4 es4
      refine lv_aload_n hx hb dX11_undo_28 rfl (lv_at hl 0 rfl) ?_
      refine va_get (D := D) (ci := 10) (v := .ref (hMo 19)) (C := RX11) (T := TX11) (N := 41) hx hb hts iX11 hown hK hP 0 o_Mo rfl 19 (by decide) (htl _ (mB6 _ (List.mem_of_getElem? (i := 7) rfl))) (fun _ h9 => h9) rfl dX11_undo_29 ?_
      refine lv_bipush (v := (7 : Int32)) hx hb dX11_undo_32 (by decide) ?_
      refine lv_aload_n hx hb dX11_undo_34 rfl (lv_at hl 0 rfl) ?_
      refine va_get (D := D) (ci := 10) (v := .int (s4.1 21)) (C := RX11) (T := TX11) (N := 41) hx hb hts iX11 hown hK hP 0 o_Mo rfl 21 (by decide) (htl _ (mB18 _ (List.mem_of_getElem? (i := 5) rfl))) (fun _ h9 => h9) rfl dX11_undo_35 ?_
      refine lv_imul hx hb dX11_undo_38 ?_
      refine lv_aload_n hx hb dX11_undo_39 rfl (lv_at hl 0 rfl) ?_
      refine va_get (D := D) (ci := 10) (v := .ref (hMo 18)) (C := RX11) (T := TX11) (N := 41) hx hb hts iX11 hown hK hP 0 o_Mo rfl 18 (by decide) (htl _ (mB6 _ (List.mem_of_getElem? (i := 6) rfl))) (fun _ h9 => h9) rfl dX11_undo_40 ?_
      refine lv_iconst (v := (0 : Int32)) hx hb dX11_undo_43 (by decide) ?_
      refine lv_bipush (v := (7 : Int32)) hx hb dX11_undo_44 (by decide) ?_
      obtain ⟨o5, go5, hf⟩ := bd_s hf
      refine rw_Sv (wn := wMo K hMo (wA s4 18 o5)) (As := [.ref (hMo 19), .int ((7 : Int32) * (s4.1 21)), .ref (hMo 18), .int (0 : Int32), .int (7 : Int32)]) (rest := []) ⟨hx, hb, hml, hown, hts⟩ (c_X11_copy l D K F (hMo 19) 84 (hMo 18) 7 H.size (s4.2.2.1 19) (s4.2.2.1 18) ((7 : Int32) * (s4.1 21)) (0 : Int32) (7 : Int32) o5 go5) (va_cwS 5 hts (gcS_X11_copy (mB22 _ (List.mem_of_getElem? (i := 21) rfl))) rfl rfl rfl hdS_X11_copy ⟨Nat.le_of_ble_eq_true rfl, Nat.le_of_ble_eq_true rfl⟩) hK hP hD hS hA [7, 6] [0, 1, 2, 3, 4, 5, 8, 9, 10, 11, 12, 13, 14, 15, 16, 17] [0, 1, 2, 3, 4, 5, 17, 16, 6, 7, 8, 9, 10, 11, 12, 13, 14, 15] rfl rfl (by decide +kernel) (by decide +kernel) (by decide +kernel) rfl (by decide +kernel) rfl hl.1 rfl (Nat.le_of_ble_eq_true rfl) dX11_undo_46 ⟨Nat.zero_le _, Nat.zero_le _⟩ (fun H locs hP hD hS => ?_)
      have hP : va_P D vwCl (wMo K hMo (wA s4 18 o5)) H := hP
      have hD : va_D A (wMo K hMo (wA s4 18 o5)) := hD
      obtain ⟨s6, es6⟩ : ∃ z, z = (wA s4 18 o5) := ⟨_, rfl⟩
      have hP : va_P D vwCl (wMo K hMo s6) H := by rw [es6]; exact hP
      have hD : va_D A (wMo K hMo s6) := by rw [es6]; exact hD
      have hf := lz_s hf s6 es6
      refine lv_iconst (v := (1 : Int32)) hx hb dX11_undo_49 (by decide) ?_
      have e9 := Option.some.inj hf
      rw [hQ]
      exact W.zret (v := (1 : Int32)) hx hb hr rfl (fun t ht hW => ⟨⟨(1 : Int32), s6, rfl, ⟨pr1 e9, pr2 e9⟩, ⟨by rw [ht]; exact hP, va_K.moved hW.alike hK, hD⟩⟩, hS.F ht⟩) hS.2.2 dX11_undo_50
    · have hf := it_t hf c2
      refine lv_aload_n hx hb dX11_undo_11 rfl (lv_at hl 0 rfl) ?_
      refine lv_bipush (v := (6 : Int32)) hx hb dX11_undo_12 (by decide) ?_
      obtain ⟨o7, go7, hf⟩ := bd_s hf
      refine rs_Vi (As := [.int (6 : Int32)]) (rest := []) ⟨hx, hb, hml, hown, hts⟩ (c_X11_isNot l D K F hMo H.size o1 (6 : Int32) o7 go7) (cwV 1 hts (gcV_X11_isNot (mB29 _ (List.mem_of_getElem? (i := 16) rfl))) rfl rfl rfl hdV_X11_isNot ⟨Nat.le_of_ble_eq_true rfl, Nat.le_of_ble_eq_true rfl⟩) hK hP hD hS hA (va_recv hK hP (ci := 10) (q0 := 0) rfl o_Mo) rfl hl.1 rfl (Nat.le_of_ble_eq_true rfl) dX11_undo_14 ⟨Nat.zero_le _, Nat.zero_le _⟩ (fun H locs hP hD hS => ?_)
      have hP : va_P D vwCl (wMo K hMo o7.2) H := hP
      have hD : va_D A (wMo K hMo o7.2) := hD
      obtain ⟨g8, hf⟩ := gd_s hf
      have e9 := Option.some.inj hf
      rw [hQ]
      exact W.zret (v := o7.1) hx hb hr (bob_s g8) (fun t ht hW => ⟨⟨o7.1, o7.2, rfl, ⟨pr1 e9, pr2 e9⟩, ⟨by rw [ht]; exact hP, va_K.moved hW.alike hK, hD⟩⟩, hS.F ht⟩) hS.2.2 dX11_undo_17
  rw [hHe] at hgo
  exact hgo

def wz_X11_image : List Cond := .code yX11_image cX11_image 1 (some .int) :: wsL_law
abbrev r_X11_image : Room := { frames := 1, cells := 0, slots := 0, locals := 25 }
set_option maxHeartbeats 4000000 in
set_option maxRecDepth 100000 in
theorem c_X11_image (l : Launch) (D : va_G) (K : Nat → ClassId) (F : Nat) (hMo : Nat → Nat) (sz : Nat) (sMo : MS) (res : Int32 × MS) (hf : f_X11_image F sMo = some res) : Met l yX11_image wz_X11_image r_X11_image (va_Pc [.ref (hMo 99)] (PW D K (wMo K hMo sMo) sz)) (va_Qi (fun r u => r = res.1 ∧ u = res.2) (fun u t => BW D K (va_A (wMo K hMo sMo) sz) (wMo K hMo u) t) (va_A (wMo K hMo sMo) sz)) 0 0 (va_A (wMo K hMo sMo) sz) := by
  refine Met.ofW (cc := cX11_image) (maxL := 1) (ret := (some .int)) (by decide) rfl ?_
  intro p e s m args below meth c s₁ B hml hv
  obtain ⟨hargs, hsz, hP, hK, hD0⟩ := hv
  have hx := B.exec
  have hb := B.bytes
  have hr := B.returns
  have hts := atoms_spec (ws := wz_X11_image) B.pre
  have htl : ∀ w ∈ wsL_law, w.before args s = true := fun w h => hts w (List.mem_cons_of_mem _ h)
  have hown : s.vm.findClass RX11 = some m.cls := findClass_of_methodNamed B.named
  have hlocks := B.notSynchronized
  subst hsz
  have hD := hD0.self (sz := s.heap.size)
  generalize hAe : va_A (wMo K hMo sMo) s.heap.size = A at hD ⊢
  have hA : ∀ q : Nat, s.heap.size ≤ q → A q := fun q h => by rw [← hAe]; exact Or.inr h
  have hS : va_S A s.heap s.heap [] := va_S.rf
  have iX11 : ∀ w ∈ wsX110, w ∈ wz_X11_image := fun w h => List.mem_cons_of_mem _ (inlX11 w h)
  suffices hgo : ∀ Q : State → Prop, Q = MQ below (va_Qi (fun r u => r = res.1 ∧ u = res.2) (fun u t => BW D K A (wMo K hMo u) t) A) args s 0 0 A → W p l e (headSpec wz_X11_image r_X11_image).room s m args below meth c s.heap [] 0 0 Q (entryFrame m args 1) from hgo _ rfl
  intro Q hQ
  have hen : entryFrame m args 1 = entryFrame m (([.ref (hMo 99)] : List Value).toArray) 1 := by rw [hargs]
  have hl := lv_entry ([.ref (hMo 99)]) (n := 1) (Nat.le_of_ble_eq_true rfl)
  rw [hen, lg_entry_eq]
  generalize (lg_sl ([.ref (hMo 99)]) ++ List.replicate (1 - (lg_sl ([.ref (hMo 99)])).length) Slot.unset).toArray = ls at hl ⊢
  have hl : lv_has ls 1 [(0, .ref (hMo 99))] := hl
  unfold f_X11_image at hf
  obtain ⟨H, hHe⟩ : ∃ z, z = s.heap := ⟨_, rfl⟩
  obtain ⟨locs, hLe⟩ : ∃ z : List Loc, z = [] := ⟨_, rfl⟩
  rw [← hLe]
  have hS : va_S A s.heap H locs := by rw [hHe, hLe]; exact hS
  have hP : va_P D vwCl (wMo K hMo sMo) H := by rw [hHe]; exact hP
  have hgo : W p l e (headSpec wz_X11_image r_X11_image).room s m args below meth c H locs 0 0 Q (F0 m 0 ls []) := by
    refine lv_aload_n hx hb dX11_image_0 rfl (lv_at hl 0 rfl) ?_
    obtain ⟨o1, go1, hf⟩ := bd_s hf
    refine rs_Vv (As := []) (rest := []) ⟨hx, hb, hml, hown, hts⟩ (c_X11_good l D K F hMo H.size sMo o1 go1) (cwV 0 hts (gcV_X11_good (mB18 _ (List.mem_of_getElem? (i := 7) rfl))) rfl rfl rfl hdV_X11_good ⟨Nat.le_of_ble_eq_true rfl, Nat.le_of_ble_eq_true rfl⟩) hK hP hD hS hA (va_recv hK hP (ci := 10) (q0 := 0) rfl o_Mo) rfl hl.1 rfl (Nat.le_of_ble_eq_true rfl) dX11_image_1 ⟨Nat.zero_le _, Nat.zero_le _⟩ (fun H locs hP hD hS => ?_)
    have hP : va_P D vwCl (wMo K hMo o1) H := hP
    have hD : va_D A (wMo K hMo o1) := hD
    refine lv_aload_n hx hb dX11_image_4 rfl (lv_at hl 0 rfl) ?_
    refine va_get (D := D) (ci := 10) (v := .int (o1.1 14)) (C := RX11) (T := TX11) (N := 41) hx hb hts iX11 hown hK hP 0 o_Mo rfl 14 (by decide) (htl _ (mB18 _ (List.mem_of_getElem? (i := 4) rfl))) (fun _ h9 => h9) rfl dX11_image_5 ?_
    refine lv_if_ne (tgt := 17) hx hb dX11_image_8 (by decide) (fun c2 => ?_) (fun c2 => ?_)
    · have hf := it_f hf c2
      refine lv_aload_n hx hb dX11_image_17 rfl (lv_at hl 0 rfl) ?_
      refine va_get (D := D) (ci := 10) (v := .int (o1.1 22)) (C := RX11) (T := TX11) (N := 41) hx hb hts iX11 hown hK hP 0 o_Mo rfl 22 (by decide) (htl _ (mB18 _ (List.mem_of_getElem? (i := 6) rfl))) (fun _ h9 => h9) rfl dX11_image_18 ?_
      refine lv_iconst (v := (3 : Int32)) hx hb dX11_image_21 (by decide) ?_
      refine lv_icmp_ne (tgt := 31) hx hb dX11_image_22 (by decide) (fun c3 => ?_) (fun c3 => ?_)
      · have hf := it_f hf c3
        refine lv_aload_n hx hb dX11_image_31 rfl (lv_at hl 0 rfl) ?_
        refine va_get (D := D) (ci := 10) (v := .ref (hMo 18)) (C := RX11) (T := TX11) (N := 41) hx hb hts iX11 hown hK hP 0 o_Mo rfl 18 (by decide) (htl _ (mB6 _ (List.mem_of_getElem? (i := 6) rfl))) (fun _ h9 => h9) rfl dX11_image_32 ?_
        refine lv_iconst (v := (0 : Int32)) hx hb dX11_image_35 (by decide) ?_
        refine lv_aload_n hx hb dX11_image_36 rfl (lv_at hl 0 rfl) ?_
        refine va_get (D := D) (ci := 10) (v := .ref (hMo 20)) (C := RX11) (T := TX11) (N := 41) hx hb hts iX11 hown hK hP 0 o_Mo rfl 20 (by decide) (htl _ (mB6 _ (List.mem_of_getElem? (i := 8) rfl))) (fun _ h9 => h9) rfl dX11_image_37 ?_
        refine lv_bipush (v := (7 : Int32)) hx hb dX11_image_40 (by decide) ?_
        refine lv_aload_n hx hb dX11_image_42 rfl (lv_at hl 0 rfl) ?_
        refine va_get (D := D) (ci := 10) (v := .int (o1.1 22)) (C := RX11) (T := TX11) (N := 41) hx hb hts iX11 hown hK hP 0 o_Mo rfl 22 (by decide) (htl _ (mB18 _ (List.mem_of_getElem? (i := 6) rfl))) (fun _ h9 => h9) rfl dX11_image_43 ?_
        refine lv_imul hx hb dX11_image_46 ?_
        refine lv_bipush (v := (7 : Int32)) hx hb dX11_image_47 (by decide) ?_
        obtain ⟨o4, go4, hf⟩ := bd_s hf
        refine rw_Sv (wn := wMo K hMo (wA o1 20 o4)) (As := [.ref (hMo 18), .int (0 : Int32), .ref (hMo 20), .int ((7 : Int32) * (o1.1 22)), .int (7 : Int32)]) (rest := []) ⟨hx, hb, hml, hown, hts⟩ (c_X11_copy l D K F (hMo 18) 7 (hMo 20) 21 H.size (o1.2.2.1 18) (o1.2.2.1 20) (0 : Int32) ((7 : Int32) * (o1.1 22)) (7 : Int32) o4 go4) (va_cwS 5 hts (gcS_X11_copy (mB22 _ (List.mem_of_getElem? (i := 21) rfl))) rfl rfl rfl hdS_X11_copy ⟨Nat.le_of_ble_eq_true rfl, Nat.le_of_ble_eq_true rfl⟩) hK hP hD hS hA [6, 8] [0, 1, 2, 3, 4, 5, 7, 9, 10, 11, 12, 13, 14, 15, 16, 17] [0, 1, 2, 3, 4, 5, 16, 6, 17, 7, 8, 9, 10, 11, 12, 13, 14, 15] rfl rfl (by decide +kernel) (by decide +kernel) (by decide +kernel) rfl (by decide +kernel) rfl hl.1 rfl (Nat.le_of_ble_eq_true rfl) dX11_image_49 ⟨Nat.zero_le _, Nat.zero_le _⟩ (fun H locs hP hD hS => ?_)
        have hP : va_P D vwCl (wMo K hMo (wA o1 20 o4)) H := hP
        have hD : va_D A (wMo K hMo (wA o1 20 o4)) := hD
        obtain ⟨s5, es5⟩ : ∃ z, z = (wA o1 20 o4) := ⟨_, rfl⟩
        have hP : va_P D vwCl (wMo K hMo s5) H := by rw [es5]; exact hP
        have hD : va_D A (wMo K hMo s5) := by rw [es5]; exact hD
        have hf := lz_s hf s5 es5
        refine lv_aload_n hx hb dX11_image_52 rfl (lv_at hl 0 rfl) ?_
        refine lv_dup hx hb dX11_image_53 rfl ?_
        refine va_get (D := D) (ci := 10) (v := .int (s5.1 22)) (C := RX11) (T := TX11) (N := 41) hx hb hts iX11 hown hK hP 0 o_Mo rfl 22 (by decide) (htl _ (mB18 _ (List.mem_of_getElem? (i := 6) rfl))) (fun _ h9 => h9) rfl dX11_image_54 ?_
        refine lv_iconst (v := (1 : Int32)) hx hb dX11_image_57 (by decide) ?_
        refine lv_iadd hx hb dX11_image_58 ?_
        refine lv_topi (fun v6 ev6 => ?_)
        have hf := lz_s hf v6 ev6
        refine va_put (D := D) (ci := 10) (v := .int v6) (ty := .int) (C := RX11) (T := TX11) (N := 41) hx hb hts iX11 tyX11 tyX11_ok nmX11 hown hK hP hD hS 0 o_Mo rfl 22 (by decide) (htl _ (mB18 _ (List.mem_of_getElem? (i := 6) rfl))) (fun _ h9 => h9) rfl (by decide +kernel) rfl rfl (Nat.le_of_ble_eq_true rfl) dX11_image_59 (fun H locs hP hD hS => ?_)
        have hP := cvP si_Mo_22 hP
        have hD := cvD si_Mo_22 hD
        obtain ⟨s7, es7⟩ : ∃ z, z = sI s5 22 v6 := ⟨_, rfl⟩
        have hP : va_P D vwCl (wMo K hMo s7) H := by rw [es7]; exact hP
        have hD : va_D A (wMo K hMo s7) := by rw [es7]; exact hD
        have hf := lz_s hf s7 es7
        refine lv_aload_n hx hb dX11_image_62 rfl (lv_at hl 0 rfl) ?_
        refine va_get (D := D) (ci := 10) (v := .int (s7.1 22)) (C := RX11) (T := TX11) (N := 41) hx hb hts iX11 hown hK hP 0 o_Mo rfl 22 (by decide) (htl _ (mB18 _ (List.mem_of_getElem? (i := 6) rfl))) (fun _ h9 => h9) rfl dX11_image_63 ?_
        refine lv_iconst (v := (1 : Int32)) hx hb dX11_image_66 (by decide) ?_
        refine lv_isub hx hb dX11_image_67 ?_
        have e9 := Option.some.inj hf
        rw [hQ]
        exact W.iret (v := ((s7.1 22) - (1 : Int32))) hx hb hr (fun t ht hW => ⟨⟨((s7.1 22) - (1 : Int32)), s7, rfl, ⟨pr1 e9, pr2 e9⟩, ⟨by rw [ht]; exact hP, va_K.moved hW.alike hK, hD⟩⟩, hS.F ht⟩) hS.2.2 dX11_image_68
      · have hf := it_t hf c3
        refine lv_aload_n hx hb dX11_image_25 rfl (lv_at hl 0 rfl) ?_
        refine lv_iconst (v := (3 : Int32)) hx hb dX11_image_26 (by decide) ?_
        obtain ⟨o8, go8, hf⟩ := bd_s hf
        refine rs_Vi (As := [.int (3 : Int32)]) (rest := []) ⟨hx, hb, hml, hown, hts⟩ (c_X11_no l D K F hMo H.size o1 (3 : Int32) o8 go8) (cwV 1 hts (gcV_X11_no (mB18 _ (List.mem_of_getElem? (i := 15) rfl))) rfl rfl rfl hdV_X11_no ⟨Nat.le_of_ble_eq_true rfl, Nat.le_of_ble_eq_true rfl⟩) hK hP hD hS hA (va_recv hK hP (ci := 10) (q0 := 0) rfl o_Mo) rfl hl.1 rfl (Nat.le_of_ble_eq_true rfl) dX11_image_27 ⟨Nat.zero_le _, Nat.zero_le _⟩ (fun H locs hP hD hS => ?_)
        have hP : va_P D vwCl (wMo K hMo o8.2) H := hP
        have hD : va_D A (wMo K hMo o8.2) := hD
        have e9 := Option.some.inj hf
        rw [hQ]
        exact W.iret (v := o8.1) hx hb hr (fun t ht hW => ⟨⟨o8.1, o8.2, rfl, ⟨pr1 e9, pr2 e9⟩, ⟨by rw [ht]; exact hP, va_K.moved hW.alike hK, hD⟩⟩, hS.F ht⟩) hS.2.2 dX11_image_30
    · have hf := it_t hf c2
      refine lv_aload_n hx hb dX11_image_11 rfl (lv_at hl 0 rfl) ?_
      refine lv_iconst (v := (1 : Int32)) hx hb dX11_image_12 (by decide) ?_
      obtain ⟨o9, go9, hf⟩ := bd_s hf
      refine rs_Vi (As := [.int (1 : Int32)]) (rest := []) ⟨hx, hb, hml, hown, hts⟩ (c_X11_no l D K F hMo H.size o1 (1 : Int32) o9 go9) (cwV 1 hts (gcV_X11_no (mB18 _ (List.mem_of_getElem? (i := 15) rfl))) rfl rfl rfl hdV_X11_no ⟨Nat.le_of_ble_eq_true rfl, Nat.le_of_ble_eq_true rfl⟩) hK hP hD hS hA (va_recv hK hP (ci := 10) (q0 := 0) rfl o_Mo) rfl hl.1 rfl (Nat.le_of_ble_eq_true rfl) dX11_image_13 ⟨Nat.zero_le _, Nat.zero_le _⟩ (fun H locs hP hD hS => ?_)
      have hP : va_P D vwCl (wMo K hMo o9.2) H := hP
      have hD : va_D A (wMo K hMo o9.2) := hD
      have e9 := Option.some.inj hf
      rw [hQ]
      exact W.iret (v := o9.1) hx hb hr (fun t ht hW => ⟨⟨o9.1, o9.2, rfl, ⟨pr1 e9, pr2 e9⟩, ⟨by rw [ht]; exact hP, va_K.moved hW.alike hK, hD⟩⟩, hS.F ht⟩) hS.2.2 dX11_image_16
  rw [hHe] at hgo
  exact hgo
