def wz_X10_putBytes : List Cond := .code yX10_putBytes cX10_putBytes 3 none :: wsL_law
abbrev r_X10_putBytes : Room := { frames := 0, cells := 0, slots := 0, locals := 0 }
set_option maxHeartbeats 4000000 in
set_option maxRecDepth 100000 in
theorem c_X10_putBytes (l : Launch) (D : va_G) (K : Nat → ClassId) (F : Nat) (hMn : Nat → Nat) (rMn2 : Nat) (rMn3 : Nat) (rMn4 : Nat) (rMn5 : Nat) (rMn6 : Nat) (rMn7 : Nat) (rMn8 : Nat) (rMn9 : Nat) (rMn10 : Nat) (aTp nTp : Nat) (sz : Nat) (sMn : MS) (fTp : (Nat → Int32)) (p1 : Int32) (res : MS × (Nat → Int32)) (hf : f_X10_putBytes F nTp p1 sMn fTp = some res) : Met l yX10_putBytes wz_X10_putBytes r_X10_putBytes (va_Pc [.ref (hMn 99), .int p1] (PW D K (wMn K hMn aTp rMn2 rMn3 rMn4 rMn5 rMn6 rMn7 rMn8 rMn9 rMn10 sMn ++ wAB K aTp nTp fTp) sz)) (va_Qv (fun u => u = res) (fun u t => BW D K (va_A (wMn K hMn aTp rMn2 rMn3 rMn4 rMn5 rMn6 rMn7 rMn8 rMn9 rMn10 sMn ++ wAB K aTp nTp fTp) sz) (wMn K hMn aTp rMn2 rMn3 rMn4 rMn5 rMn6 rMn7 rMn8 rMn9 rMn10 u.1 ++ wAB K aTp nTp u.2) t) (va_A (wMn K hMn aTp rMn2 rMn3 rMn4 rMn5 rMn6 rMn7 rMn8 rMn9 rMn10 sMn ++ wAB K aTp nTp fTp) sz)) 0 0 (va_A (wMn K hMn aTp rMn2 rMn3 rMn4 rMn5 rMn6 rMn7 rMn8 rMn9 rMn10 sMn ++ wAB K aTp nTp fTp) sz) := by
  refine Met.ofW (cc := cX10_putBytes) (maxL := 3) (ret := none) (by decide) rfl ?_
  intro p e s m args below meth c s₁ B hml hv
  obtain ⟨hargs, hsz, hP, hK, hD0⟩ := hv
  have hx := B.exec
  have hb := B.bytes
  have hr := B.returns
  have hts := atoms_spec (ws := wz_X10_putBytes) B.pre
  have htl : ∀ w ∈ wsL_law, w.before args s = true := fun w h => hts w (List.mem_cons_of_mem _ h)
  have hown : s.vm.findClass RX10 = some m.cls := findClass_of_methodNamed B.named
  have hlocks := B.notSynchronized
  subst hsz
  have hD := hD0.self (sz := s.heap.size)
  generalize hAe : va_A (wMn K hMn aTp rMn2 rMn3 rMn4 rMn5 rMn6 rMn7 rMn8 rMn9 rMn10 sMn ++ wAB K aTp nTp fTp) s.heap.size = A at hD ⊢
  have hA : ∀ q : Nat, s.heap.size ≤ q → A q := fun q h => by rw [← hAe]; exact Or.inr h
  have hS : va_S A s.heap s.heap [] := va_S.rf
  have iX10 : ∀ w ∈ wsX100, w ∈ wz_X10_putBytes := fun w h => List.mem_cons_of_mem _ (inlX10 w h)
  suffices hgo : ∀ Q : State → Prop, Q = MQ below (va_Qv (fun u => u = res) (fun u t => BW D K A (wMn K hMn aTp rMn2 rMn3 rMn4 rMn5 rMn6 rMn7 rMn8 rMn9 rMn10 u.1 ++ wAB K aTp nTp u.2) t) A) args s 0 0 A → W p l e (headSpec wz_X10_putBytes r_X10_putBytes).room s m args below meth c s.heap [] 0 0 Q (entryFrame m args 3) from hgo _ rfl
  intro Q hQ
  have w3 : ∀ (n : Nat), ∀ (x2 : Int32), ∀ (sMn : MS), ∀ (fTp : (Nat → Int32)), ∀ (H : Heap) (locs : List Loc) (ls : Array Slot), f_X10_putBytes_3 F nTp p1 n x2 sMn fTp = some res → va_P D vwCl (wMn K hMn aTp rMn2 rMn3 rMn4 rMn5 rMn6 rMn7 rMn8 rMn9 rMn10 sMn ++ wAB K aTp nTp fTp) H → va_D A (wMn K hMn aTp rMn2 rMn3 rMn4 rMn5 rMn6 rMn7 rMn8 rMn9 rMn10 sMn ++ wAB K aTp nTp fTp) → va_S A s.heap H locs → lv_has ls 3 [(0, .ref (hMn 99)), (1, .int p1), (2, .int x2)] → W p l e (headSpec wz_X10_putBytes r_X10_putBytes).room s m args below meth c H locs 0 0 Q (F0 m 3 ls []) := by
    intro n
    induction n with
    | zero =>
      intro x2 sMn fTp H locs ls hf
      exact absurd (show none = some res from hf) (fun h => nomatch h)
    | succ n ih =>
      intro x2 sMn fTp H locs ls hf hP hD hS hl
      rw [f_X10_putBytes_3] at hf
      refine lv_iload_n hx hb dX10_putBytes_3 rfl (lv_at hl 2 rfl) ?_
      refine lv_if_lt (tgt := 36) hx hb dX10_putBytes_4 (by decide) (fun c1 => ?_) (fun c1 => ?_)
      · have hf := it_t hf c1
        have e9 := Option.some.inj hf
        rw [hQ]
        exact W.vret hx hb hr (fun t ht hW => ⟨⟨(sMn, fTp), rfl, e9, ⟨by rw [ht]; exact hP, va_K.moved hW.alike hK, hD⟩⟩, hS.F ht⟩) hS.2.2 dX10_putBytes_36
      · have hf := it_f hf c1
        refine lv_aload_n hx hb dX10_putBytes_7 rfl (lv_at hl 0 rfl) ?_
        refine va_get (D := D) (ci := 9) (v := .ref aTp) (C := RX10) (T := TX10) (N := 14) hx hb hts iX10 hown hK hP 0 (rwl o_Mn) rfl 0 (by decide) (htl _ (mB1 _ (List.mem_of_getElem? (i := 14) rfl))) (fun _ h9 => h9) rfl dX10_putBytes_8 ?_
        refine lv_aload_n hx hb dX10_putBytes_11 rfl (lv_at hl 0 rfl) ?_
        refine va_get (D := D) (ci := 9) (v := .int (sMn.1 1)) (C := RX10) (T := TX10) (N := 14) hx hb hts iX10 hown hK hP 0 (rwl o_Mn) rfl 1 (by decide) (htl _ (mB6 _ (List.mem_of_getElem? (i := 22) rfl))) (fun _ h9 => h9) rfl dX10_putBytes_12 ?_
        refine lv_iload_n hx hb dX10_putBytes_15 rfl (lv_at hl 1 rfl) ?_
        refine lv_iload_n hx hb dX10_putBytes_16 rfl (lv_at hl 2 rfl) ?_
        refine lv_ishr hx hb dX10_putBytes_17 ?_
        refine lv_i2b (v := (p1 >>> (x2 &&& 31)).toInt8.toInt32) hx hb dX10_putBytes_18 rfl ?_
        refine lv_topi (fun v2 ev2 => ?_)
        have hf := lz_s hf v2 ev2
        obtain ⟨g3, hf⟩ := gd_s hf
        refine va_bast hx hb hK hP hD hS (1 + 0) 2 (f := fTp) (rwr ln_Mn o_AB) rfl (vpb_in g3) dX10_putBytes_19 (fun H locs hP hD hS => ?_)
        have hP := cvP (str ln_Mn s_AB) hP
        have hD := cvD (str ln_Mn s_AB) hD
        obtain ⟨g4, eg4⟩ : ∃ z, z = upd fTp ((sMn.1 1).toNatClampNeg) (vp_nar .byte v2) := ⟨_, rfl⟩
        have hP : va_P D vwCl (wMn K hMn aTp rMn2 rMn3 rMn4 rMn5 rMn6 rMn7 rMn8 rMn9 rMn10 sMn ++ wAB K aTp nTp g4) H := by rw [eg4]; exact hP
        have hD : va_D A (wMn K hMn aTp rMn2 rMn3 rMn4 rMn5 rMn6 rMn7 rMn8 rMn9 rMn10 sMn ++ wAB K aTp nTp g4) := by rw [eg4]; exact hD
        have hf := lz_s hf g4 eg4
        refine lv_aload_n hx hb dX10_putBytes_20 rfl (lv_at hl 0 rfl) ?_
        refine lv_dup hx hb dX10_putBytes_21 rfl ?_
        refine va_get (D := D) (ci := 9) (v := .int (sMn.1 1)) (C := RX10) (T := TX10) (N := 14) hx hb hts iX10 hown hK hP 0 (rwl o_Mn) rfl 1 (by decide) (htl _ (mB6 _ (List.mem_of_getElem? (i := 22) rfl))) (fun _ h9 => h9) rfl dX10_putBytes_22 ?_
        refine lv_iconst (v := (1 : Int32)) hx hb dX10_putBytes_25 (by decide) ?_
        refine lv_iadd hx hb dX10_putBytes_26 ?_
        refine lv_topi (fun v5 ev5 => ?_)
        have hf := lz_s hf v5 ev5
        refine va_put (D := D) (ci := 9) (v := .int v5) (ty := .int) (C := RX10) (T := TX10) (N := 14) hx hb hts iX10 tyX10 tyX10_ok nmX10 hown hK hP hD hS 0 (rwl o_Mn) rfl 1 (by decide) (htl _ (mB6 _ (List.mem_of_getElem? (i := 22) rfl))) (fun _ h9 => h9) rfl (by decide +kernel) rfl rfl (Nat.le_of_ble_eq_true rfl) dX10_putBytes_27 (fun H locs hP hD hS => ?_)
        have hP := cvP (stl si_Mn_1 (rlt o_Mn)) hP
        have hD := cvD (stl si_Mn_1 (rlt o_Mn)) hD
        obtain ⟨s6, es6⟩ : ∃ z, z = sI sMn 1 v5 := ⟨_, rfl⟩
        have hP : va_P D vwCl (wMn K hMn aTp rMn2 rMn3 rMn4 rMn5 rMn6 rMn7 rMn8 rMn9 rMn10 s6 ++ wAB K aTp nTp g4) H := by rw [es6]; exact hP
        have hD : va_D A (wMn K hMn aTp rMn2 rMn3 rMn4 rMn5 rMn6 rMn7 rMn8 rMn9 rMn10 s6 ++ wAB K aTp nTp g4) := by rw [es6]; exact hD
        have hf := lz_s hf s6 es6
        obtain ⟨v7, ev7⟩ : ∃ z : Int32, z = x2 + (-8 : Int32) := ⟨_, rfl⟩
        have hf := lz_s hf v7 ev7
        refine lv_iinc (v := v7) (lv' := [(2, .int v7), (0, .ref (hMn 99)), (1, .int p1)]) hx hb dX10_putBytes_30 hl (k := 2) rfl (by rw [ev7]; rfl) (by decide) rfl (fun ls hl => ?_)
        refine lv_goto (tgt := 3) hx hb dX10_putBytes_33 (by decide) ?_
        exact ih v7 s6 g4 H locs ls hf hP hD hS (lv_sub hl [1, 2, 0] rfl)
  have hen : entryFrame m args 3 = entryFrame m (([.ref (hMn 99), .int p1] : List Value).toArray) 3 := by rw [hargs]
  have hl := lv_entry ([.ref (hMn 99), .int p1]) (n := 3) (Nat.le_of_ble_eq_true rfl)
  rw [hen, lg_entry_eq]
  generalize (lg_sl ([.ref (hMn 99), .int p1]) ++ List.replicate (3 - (lg_sl ([.ref (hMn 99), .int p1])).length) Slot.unset).toArray = ls at hl ⊢
  have hl : lv_has ls 3 [(0, .ref (hMn 99)), (1, .int p1)] := hl
  unfold f_X10_putBytes at hf
  obtain ⟨H, hHe⟩ : ∃ z, z = s.heap := ⟨_, rfl⟩
  obtain ⟨locs, hLe⟩ : ∃ z : List Loc, z = [] := ⟨_, rfl⟩
  rw [← hLe]
  have hS : va_S A s.heap H locs := by rw [hHe, hLe]; exact hS
  have hP : va_P D vwCl (wMn K hMn aTp rMn2 rMn3 rMn4 rMn5 rMn6 rMn7 rMn8 rMn9 rMn10 sMn ++ wAB K aTp nTp fTp) H := by rw [hHe]; exact hP
  have hgo : W p l e (headSpec wz_X10_putBytes r_X10_putBytes).room s m args below meth c H locs 0 0 Q (F0 m 0 ls []) := by
    refine lv_bipush (v := (24 : Int32)) hx hb dX10_putBytes_0 (by decide) ?_
    refine lv_istore_n (lv' := [(2, .int (24 : Int32)), (0, .ref (hMn 99)), (1, .int p1)]) hx hb dX10_putBytes_2 rfl hl (by decide) rfl (fun ls hl => ?_)
    exact w3 F (24 : Int32) sMn fTp H locs ls hf hP hD hS (lv_sub hl [1, 2, 0] rfl)
  rw [hHe] at hgo
  exact hgo

theorem gcV_X10_putBytes {T0 : Cond} {own : String} {i : Nat} (h : Cond.methodLink own i yX10_putBytes ∈ wsL_law) : GoodIn (T0 :: wsL_law) (wsV own i RX10 yX10_putBytes wz_X10_putBytes) := gV h (mB7 _ (List.mem_of_getElem? (i := 0) rfl)) (mB7 _ (List.mem_of_getElem? (i := 1) rfl)) (mB1 _ (List.mem_of_getElem? (i := 2) rfl)) (mB7 _ (List.mem_of_getElem? (i := 2) rfl))
theorem hdV_X10_putBytes : yX10_putBytes.cls = RX10 ∧ yX10_putBytes.cls ≠ "java/lang/invoke/MethodHandle" ∧ yX10_putBytes.cls ≠ "java/lang/invoke/VarHandle" ∧ (parseMethodDescriptor yX10_putBytes.desc).map (fun d => d.parameters.length) = some 1 := by decide +kernel
def wz_X10_feed : List Cond := .code yX10_feed cX10_feed 6 (some .int) :: wsL_law
abbrev r_X10_feed : Room := { frames := 1, cells := 0, slots := 0, locals := 22 }
set_option maxHeartbeats 4000000 in
set_option maxRecDepth 100000 in
theorem c_X10_feed (l : Launch) (D : va_G) (K : Nat → ClassId) (F : Nat) (hMn : Nat → Nat) (rMn2 : Nat) (rMn3 : Nat) (rMn4 : Nat) (rMn5 : Nat) (rMn6 : Nat) (rMn7 : Nat) (rMn8 : Nat) (rMn9 : Nat) (rMn10 : Nat) (aTp nTp : Nat) (sz : Nat) (sMn : MS) (fTp : (Nat → Int32)) (p1 : Int32) (p2 : Int32) (p3 : Int32) (p4 : Int32) (p5 : Int32) (res : Int32 × MS × (Nat → Int32)) (hf : f_X10_feed F nTp p1 p2 p3 p4 p5 sMn fTp = some res) : Met l yX10_feed wz_X10_feed r_X10_feed (va_Pc [.ref (hMn 99), .int p1, .int p2, .int p3, .int p4, .int p5] (PW D K (wMn K hMn aTp rMn2 rMn3 rMn4 rMn5 rMn6 rMn7 rMn8 rMn9 rMn10 sMn ++ wAB K aTp nTp fTp) sz)) (va_Qi (fun r u => r = res.1 ∧ u = res.2) (fun u t => BW D K (va_A (wMn K hMn aTp rMn2 rMn3 rMn4 rMn5 rMn6 rMn7 rMn8 rMn9 rMn10 sMn ++ wAB K aTp nTp fTp) sz) (wMn K hMn aTp rMn2 rMn3 rMn4 rMn5 rMn6 rMn7 rMn8 rMn9 rMn10 u.1 ++ wAB K aTp nTp u.2) t) (va_A (wMn K hMn aTp rMn2 rMn3 rMn4 rMn5 rMn6 rMn7 rMn8 rMn9 rMn10 sMn ++ wAB K aTp nTp fTp) sz)) 0 0 (va_A (wMn K hMn aTp rMn2 rMn3 rMn4 rMn5 rMn6 rMn7 rMn8 rMn9 rMn10 sMn ++ wAB K aTp nTp fTp) sz) := by
  refine Met.ofW (cc := cX10_feed) (maxL := 6) (ret := (some .int)) (by decide) rfl ?_
  intro p e s m args below meth c s₁ B hml hv
  obtain ⟨hargs, hsz, hP, hK, hD0⟩ := hv
  have hx := B.exec
  have hb := B.bytes
  have hr := B.returns
  have hts := atoms_spec (ws := wz_X10_feed) B.pre
  have htl : ∀ w ∈ wsL_law, w.before args s = true := fun w h => hts w (List.mem_cons_of_mem _ h)
  have hown : s.vm.findClass RX10 = some m.cls := findClass_of_methodNamed B.named
  have hlocks := B.notSynchronized
  subst hsz
  have hD := hD0.self (sz := s.heap.size)
  generalize hAe : va_A (wMn K hMn aTp rMn2 rMn3 rMn4 rMn5 rMn6 rMn7 rMn8 rMn9 rMn10 sMn ++ wAB K aTp nTp fTp) s.heap.size = A at hD ⊢
  have hA : ∀ q : Nat, s.heap.size ≤ q → A q := fun q h => by rw [← hAe]; exact Or.inr h
  have hS : va_S A s.heap s.heap [] := va_S.rf
  have iX10 : ∀ w ∈ wsX100, w ∈ wz_X10_feed := fun w h => List.mem_cons_of_mem _ (inlX10 w h)
  suffices hgo : ∀ Q : State → Prop, Q = MQ below (va_Qi (fun r u => r = res.1 ∧ u = res.2) (fun u t => BW D K A (wMn K hMn aTp rMn2 rMn3 rMn4 rMn5 rMn6 rMn7 rMn8 rMn9 rMn10 u.1 ++ wAB K aTp nTp u.2) t) A) args s 0 0 A → W p l e (headSpec wz_X10_feed r_X10_feed).room s m args below meth c s.heap [] 0 0 Q (entryFrame m args 6) from hgo _ rfl
  intro Q hQ
  have hen : entryFrame m args 6 = entryFrame m (([.ref (hMn 99), .int p1, .int p2, .int p3, .int p4, .int p5] : List Value).toArray) 6 := by rw [hargs]
  have hl := lv_entry ([.ref (hMn 99), .int p1, .int p2, .int p3, .int p4, .int p5]) (n := 6) (Nat.le_of_ble_eq_true rfl)
  rw [hen, lg_entry_eq]
  generalize (lg_sl ([.ref (hMn 99), .int p1, .int p2, .int p3, .int p4, .int p5]) ++ List.replicate (6 - (lg_sl ([.ref (hMn 99), .int p1, .int p2, .int p3, .int p4, .int p5])).length) Slot.unset).toArray = ls at hl ⊢
  have hl : lv_has ls 6 [(0, .ref (hMn 99)), (1, .int p1), (2, .int p2), (3, .int p3), (4, .int p4), (5, .int p5)] := hl
  unfold f_X10_feed at hf
  obtain ⟨H, hHe⟩ : ∃ z, z = s.heap := ⟨_, rfl⟩
  obtain ⟨locs, hLe⟩ : ∃ z : List Loc, z = [] := ⟨_, rfl⟩
  rw [← hLe]
  have hS : va_S A s.heap H locs := by rw [hHe, hLe]; exact hS
  have hP : va_P D vwCl (wMn K hMn aTp rMn2 rMn3 rMn4 rMn5 rMn6 rMn7 rMn8 rMn9 rMn10 sMn ++ wAB K aTp nTp fTp) H := by rw [hHe]; exact hP
  have hgo : W p l e (headSpec wz_X10_feed r_X10_feed).room s m args below meth c H locs 0 0 Q (F0 m 0 ls []) := by
    refine lv_aload_n hx hb dX10_feed_0 rfl (lv_at hl 0 rfl) ?_
    refine va_get (D := D) (ci := 9) (v := .int (sMn.1 1)) (C := RX10) (T := TX10) (N := 14) hx hb hts iX10 hown hK hP 0 (rwl o_Mn) rfl 1 (by decide) (htl _ (mB6 _ (List.mem_of_getElem? (i := 22) rfl))) (fun _ h9 => h9) rfl dX10_feed_1 ?_
    refine lv_bipush (v := (20 : Int32)) hx hb dX10_feed_4 (by decide) ?_
    refine lv_iadd hx hb dX10_feed_6 ?_
    refine lv_sipush (v := (800 : Int32)) hx hb dX10_feed_7 (by decide) ?_
    refine lv_icmp_le (tgt := 15) hx hb dX10_feed_10 (by decide) (fun c1 => ?_) (fun c1 => ?_)
    · have hf := it_t hf c1
      refine lv_aload_n hx hb dX10_feed_15 rfl (lv_at hl 0 rfl) ?_
      refine lv_iload_n hx hb dX10_feed_16 rfl (lv_at hl 1 rfl) ?_
      obtain ⟨o2, go2, hf⟩ := bd_s hf
      refine rs_Vv (As := [.int p1]) (rest := []) ⟨hx, hb, hml, hown, hts⟩ (c_X10_putBytes l D K F hMn rMn2 rMn3 rMn4 rMn5 rMn6 rMn7 rMn8 rMn9 rMn10 aTp nTp H.size sMn fTp p1 o2 go2) (cwV 1 hts (gcV_X10_putBytes (mB6 _ (List.mem_of_getElem? (i := 23) rfl))) rfl rfl rfl hdV_X10_putBytes ⟨Nat.le_of_ble_eq_true rfl, Nat.le_of_ble_eq_true rfl⟩) hK hP hD hS hA (va_recv hK hP (ci := 9) (q0 := 0) rfl (rwl o_Mn)) rfl hl.1 rfl (Nat.le_of_ble_eq_true rfl) dX10_feed_17 ⟨Nat.zero_le _, Nat.zero_le _⟩ (fun H locs hP hD hS => ?_)
      have hP : va_P D vwCl (wMn K hMn aTp rMn2 rMn3 rMn4 rMn5 rMn6 rMn7 rMn8 rMn9 rMn10 o2.1 ++ wAB K aTp nTp o2.2) H := hP
      have hD : va_D A (wMn K hMn aTp rMn2 rMn3 rMn4 rMn5 rMn6 rMn7 rMn8 rMn9 rMn10 o2.1 ++ wAB K aTp nTp o2.2) := hD
      refine lv_aload_n hx hb dX10_feed_20 rfl (lv_at hl 0 rfl) ?_
      refine lv_iload_n hx hb dX10_feed_21 rfl (lv_at hl 2 rfl) ?_
      obtain ⟨o3, go3, hf⟩ := bd_s hf
      refine rs_Vv (As := [.int p2]) (rest := []) ⟨hx, hb, hml, hown, hts⟩ (c_X10_putBytes l D K F hMn rMn2 rMn3 rMn4 rMn5 rMn6 rMn7 rMn8 rMn9 rMn10 aTp nTp H.size o2.1 o2.2 p2 o3 go3) (cwV 1 hts (gcV_X10_putBytes (mB6 _ (List.mem_of_getElem? (i := 23) rfl))) rfl rfl rfl hdV_X10_putBytes ⟨Nat.le_of_ble_eq_true rfl, Nat.le_of_ble_eq_true rfl⟩) hK hP hD hS hA (va_recv hK hP (ci := 9) (q0 := 0) rfl (rwl o_Mn)) rfl hl.1 rfl (Nat.le_of_ble_eq_true rfl) dX10_feed_22 ⟨Nat.zero_le _, Nat.zero_le _⟩ (fun H locs hP hD hS => ?_)
      have hP : va_P D vwCl (wMn K hMn aTp rMn2 rMn3 rMn4 rMn5 rMn6 rMn7 rMn8 rMn9 rMn10 o3.1 ++ wAB K aTp nTp o3.2) H := hP
      have hD : va_D A (wMn K hMn aTp rMn2 rMn3 rMn4 rMn5 rMn6 rMn7 rMn8 rMn9 rMn10 o3.1 ++ wAB K aTp nTp o3.2) := hD
      refine lv_aload_n hx hb dX10_feed_25 rfl (lv_at hl 0 rfl) ?_
      refine lv_iload_n hx hb dX10_feed_26 rfl (lv_at hl 3 rfl) ?_
      obtain ⟨o4, go4, hf⟩ := bd_s hf
      refine rs_Vv (As := [.int p3]) (rest := []) ⟨hx, hb, hml, hown, hts⟩ (c_X10_putBytes l D K F hMn rMn2 rMn3 rMn4 rMn5 rMn6 rMn7 rMn8 rMn9 rMn10 aTp nTp H.size o3.1 o3.2 p3 o4 go4) (cwV 1 hts (gcV_X10_putBytes (mB6 _ (List.mem_of_getElem? (i := 23) rfl))) rfl rfl rfl hdV_X10_putBytes ⟨Nat.le_of_ble_eq_true rfl, Nat.le_of_ble_eq_true rfl⟩) hK hP hD hS hA (va_recv hK hP (ci := 9) (q0 := 0) rfl (rwl o_Mn)) rfl hl.1 rfl (Nat.le_of_ble_eq_true rfl) dX10_feed_27 ⟨Nat.zero_le _, Nat.zero_le _⟩ (fun H locs hP hD hS => ?_)
      have hP : va_P D vwCl (wMn K hMn aTp rMn2 rMn3 rMn4 rMn5 rMn6 rMn7 rMn8 rMn9 rMn10 o4.1 ++ wAB K aTp nTp o4.2) H := hP
      have hD : va_D A (wMn K hMn aTp rMn2 rMn3 rMn4 rMn5 rMn6 rMn7 rMn8 rMn9 rMn10 o4.1 ++ wAB K aTp nTp o4.2) := hD
      refine lv_aload_n hx hb dX10_feed_30 rfl (lv_at hl 0 rfl) ?_
      refine lv_iload hx hb dX10_feed_31 (lv_at hl 4 rfl) ?_
      obtain ⟨o5, go5, hf⟩ := bd_s hf
      refine rs_Vv (As := [.int p4]) (rest := []) ⟨hx, hb, hml, hown, hts⟩ (c_X10_putBytes l D K F hMn rMn2 rMn3 rMn4 rMn5 rMn6 rMn7 rMn8 rMn9 rMn10 aTp nTp H.size o4.1 o4.2 p4 o5 go5) (cwV 1 hts (gcV_X10_putBytes (mB6 _ (List.mem_of_getElem? (i := 23) rfl))) rfl rfl rfl hdV_X10_putBytes ⟨Nat.le_of_ble_eq_true rfl, Nat.le_of_ble_eq_true rfl⟩) hK hP hD hS hA (va_recv hK hP (ci := 9) (q0 := 0) rfl (rwl o_Mn)) rfl hl.1 rfl (Nat.le_of_ble_eq_true rfl) dX10_feed_33 ⟨Nat.zero_le _, Nat.zero_le _⟩ (fun H locs hP hD hS => ?_)
      have hP : va_P D vwCl (wMn K hMn aTp rMn2 rMn3 rMn4 rMn5 rMn6 rMn7 rMn8 rMn9 rMn10 o5.1 ++ wAB K aTp nTp o5.2) H := hP
      have hD : va_D A (wMn K hMn aTp rMn2 rMn3 rMn4 rMn5 rMn6 rMn7 rMn8 rMn9 rMn10 o5.1 ++ wAB K aTp nTp o5.2) := hD
      refine lv_aload_n hx hb dX10_feed_36 rfl (lv_at hl 0 rfl) ?_
      refine lv_iload hx hb dX10_feed_37 (lv_at hl 5 rfl) ?_
      obtain ⟨o6, go6, hf⟩ := bd_s hf
      refine rs_Vv (As := [.int p5]) (rest := []) ⟨hx, hb, hml, hown, hts⟩ (c_X10_putBytes l D K F hMn rMn2 rMn3 rMn4 rMn5 rMn6 rMn7 rMn8 rMn9 rMn10 aTp nTp H.size o5.1 o5.2 p5 o6 go6) (cwV 1 hts (gcV_X10_putBytes (mB6 _ (List.mem_of_getElem? (i := 23) rfl))) rfl rfl rfl hdV_X10_putBytes ⟨Nat.le_of_ble_eq_true rfl, Nat.le_of_ble_eq_true rfl⟩) hK hP hD hS hA (va_recv hK hP (ci := 9) (q0 := 0) rfl (rwl o_Mn)) rfl hl.1 rfl (Nat.le_of_ble_eq_true rfl) dX10_feed_39 ⟨Nat.zero_le _, Nat.zero_le _⟩ (fun H locs hP hD hS => ?_)
      have hP : va_P D vwCl (wMn K hMn aTp rMn2 rMn3 rMn4 rMn5 rMn6 rMn7 rMn8 rMn9 rMn10 o6.1 ++ wAB K aTp nTp o6.2) H := hP
      have hD : va_D A (wMn K hMn aTp rMn2 rMn3 rMn4 rMn5 rMn6 rMn7 rMn8 rMn9 rMn10 o6.1 ++ wAB K aTp nTp o6.2) := hD
      refine lv_aload_n hx hb dX10_feed_42 rfl (lv_at hl 0 rfl) ?_
      refine va_get (D := D) (ci := 9) (v := .int (o6.1.1 1)) (C := RX10) (T := TX10) (N := 14) hx hb hts iX10 hown hK hP 0 (rwl o_Mn) rfl 1 (by decide) (htl _ (mB6 _ (List.mem_of_getElem? (i := 22) rfl))) (fun _ h9 => h9) rfl dX10_feed_43 ?_
      have e9 := Option.some.inj hf
      rw [hQ]
      exact W.iret (v := (o6.1.1 1)) hx hb hr (fun t ht hW => ⟨⟨(o6.1.1 1), (o6.1, o6.2), rfl, ⟨pr1 e9, pr2 e9⟩, ⟨by rw [ht]; exact hP, va_K.moved hW.alike hK, hD⟩⟩, hS.F ht⟩) hS.2.2 dX10_feed_46
    · have hf := it_f hf c1
      refine lv_iconst (v := (-1 : Int32)) hx hb dX10_feed_13 (by decide) ?_
      have e9 := Option.some.inj hf
      rw [hQ]
      exact W.iret (v := (-1 : Int32)) hx hb hr (fun t ht hW => ⟨⟨(-1 : Int32), (sMn, fTp), rfl, ⟨pr1 e9, pr2 e9⟩, ⟨by rw [ht]; exact hP, va_K.moved hW.alike hK, hD⟩⟩, hS.F ht⟩) hS.2.2 dX10_feed_14
  rw [hHe] at hgo
  exact hgo

def wz_X10_refuse : List Cond := .code yX10_refuse cX10_refuse 2 (some .int) :: wsL_law
abbrev r_X10_refuse : Room := { frames := 0, cells := 0, slots := 0, locals := 0 }
set_option maxHeartbeats 4000000 in
set_option maxRecDepth 100000 in
theorem c_X10_refuse (l : Launch) (D : va_G) (K : Nat → ClassId) (F : Nat) (hMn : Nat → Nat) (rMn0 : Nat) (rMn2 : Nat) (rMn3 : Nat) (rMn4 : Nat) (rMn5 : Nat) (rMn6 : Nat) (rMn7 : Nat) (rMn8 : Nat) (rMn9 : Nat) (rMn10 : Nat) (sz : Nat) (sMn : MS) (p1 : Int32) (res : Int32 × MS) (hf : f_X10_refuse F p1 sMn = some res) : Met l yX10_refuse wz_X10_refuse r_X10_refuse (va_Pc [.ref (hMn 99), .int p1] (PW D K (wMn K hMn rMn0 rMn2 rMn3 rMn4 rMn5 rMn6 rMn7 rMn8 rMn9 rMn10 sMn) sz)) (va_Qi (fun r u => r = res.1 ∧ u = res.2) (fun u t => BW D K (va_A (wMn K hMn rMn0 rMn2 rMn3 rMn4 rMn5 rMn6 rMn7 rMn8 rMn9 rMn10 sMn) sz) (wMn K hMn rMn0 rMn2 rMn3 rMn4 rMn5 rMn6 rMn7 rMn8 rMn9 rMn10 u) t) (va_A (wMn K hMn rMn0 rMn2 rMn3 rMn4 rMn5 rMn6 rMn7 rMn8 rMn9 rMn10 sMn) sz)) 0 0 (va_A (wMn K hMn rMn0 rMn2 rMn3 rMn4 rMn5 rMn6 rMn7 rMn8 rMn9 rMn10 sMn) sz) := by
  refine Met.ofW (cc := cX10_refuse) (maxL := 2) (ret := (some .int)) (by decide) rfl ?_
  intro p e s m args below meth c s₁ B hml hv
  obtain ⟨hargs, hsz, hP, hK, hD0⟩ := hv
  have hx := B.exec
  have hb := B.bytes
  have hr := B.returns
  have hts := atoms_spec (ws := wz_X10_refuse) B.pre
  have htl : ∀ w ∈ wsL_law, w.before args s = true := fun w h => hts w (List.mem_cons_of_mem _ h)
  have hown : s.vm.findClass RX10 = some m.cls := findClass_of_methodNamed B.named
  have hlocks := B.notSynchronized
  subst hsz
  have hD := hD0.self (sz := s.heap.size)
  generalize hAe : va_A (wMn K hMn rMn0 rMn2 rMn3 rMn4 rMn5 rMn6 rMn7 rMn8 rMn9 rMn10 sMn) s.heap.size = A at hD ⊢
  have hA : ∀ q : Nat, s.heap.size ≤ q → A q := fun q h => by rw [← hAe]; exact Or.inr h
  have hS : va_S A s.heap s.heap [] := va_S.rf
  have iX10 : ∀ w ∈ wsX100, w ∈ wz_X10_refuse := fun w h => List.mem_cons_of_mem _ (inlX10 w h)
  suffices hgo : ∀ Q : State → Prop, Q = MQ below (va_Qi (fun r u => r = res.1 ∧ u = res.2) (fun u t => BW D K A (wMn K hMn rMn0 rMn2 rMn3 rMn4 rMn5 rMn6 rMn7 rMn8 rMn9 rMn10 u) t) A) args s 0 0 A → W p l e (headSpec wz_X10_refuse r_X10_refuse).room s m args below meth c s.heap [] 0 0 Q (entryFrame m args 2) from hgo _ rfl
  intro Q hQ
  have hen : entryFrame m args 2 = entryFrame m (([.ref (hMn 99), .int p1] : List Value).toArray) 2 := by rw [hargs]
  have hl := lv_entry ([.ref (hMn 99), .int p1]) (n := 2) (Nat.le_of_ble_eq_true rfl)
  rw [hen, lg_entry_eq]
  generalize (lg_sl ([.ref (hMn 99), .int p1]) ++ List.replicate (2 - (lg_sl ([.ref (hMn 99), .int p1])).length) Slot.unset).toArray = ls at hl ⊢
  have hl : lv_has ls 2 [(0, .ref (hMn 99)), (1, .int p1)] := hl
  unfold f_X10_refuse at hf
  obtain ⟨H, hHe⟩ : ∃ z, z = s.heap := ⟨_, rfl⟩
  obtain ⟨locs, hLe⟩ : ∃ z : List Loc, z = [] := ⟨_, rfl⟩
  rw [← hLe]
  have hS : va_S A s.heap H locs := by rw [hHe, hLe]; exact hS
  have hP : va_P D vwCl (wMn K hMn rMn0 rMn2 rMn3 rMn4 rMn5 rMn6 rMn7 rMn8 rMn9 rMn10 sMn) H := by rw [hHe]; exact hP
  have hgo : W p l e (headSpec wz_X10_refuse r_X10_refuse).room s m args below meth c H locs 0 0 Q (F0 m 0 ls []) := by
    refine lv_aload_n hx hb dX10_refuse_0 rfl (lv_at hl 0 rfl) ?_
    refine lv_iload_n hx hb dX10_refuse_1 rfl (lv_at hl 1 rfl) ?_
    refine va_put (D := D) (ci := 9) (v := .int p1) (ty := .int) (C := RX10) (T := TX10) (N := 14) hx hb hts iX10 tyX10 tyX10_ok nmX10 hown hK hP hD hS 0 o_Mn rfl 11 (by decide) (htl _ (mB7 _ (List.mem_of_getElem? (i := 22) rfl))) (fun _ h9 => h9) rfl (by decide +kernel) rfl rfl (Nat.le_of_ble_eq_true rfl) dX10_refuse_2 (fun H locs hP hD hS => ?_)
    have hP := cvP si_Mn_11 hP
    have hD := cvD si_Mn_11 hD
    obtain ⟨s1, es1⟩ : ∃ z, z = sI sMn 11 p1 := ⟨_, rfl⟩
    have hP : va_P D vwCl (wMn K hMn rMn0 rMn2 rMn3 rMn4 rMn5 rMn6 rMn7 rMn8 rMn9 rMn10 s1) H := by rw [es1]; exact hP
    have hD : va_D A (wMn K hMn rMn0 rMn2 rMn3 rMn4 rMn5 rMn6 rMn7 rMn8 rMn9 rMn10 s1) := by rw [es1]; exact hD
    have hf := lz_s hf s1 es1
    refine lv_iconst (v := (-1 : Int32)) hx hb dX10_refuse_5 (by decide) ?_
    have e9 := Option.some.inj hf
    rw [hQ]
    exact W.iret (v := (-1 : Int32)) hx hb hr (fun t ht hW => ⟨⟨(-1 : Int32), s1, rfl, ⟨pr1 e9, pr2 e9⟩, ⟨by rw [ht]; exact hP, va_K.moved hW.alike hK, hD⟩⟩, hS.F ht⟩) hS.2.2 dX10_refuse_6
  rw [hHe] at hgo
  exact hgo

def wz_X10_accept : List Cond := .code yX10_accept cX10_accept 2 (some .int) :: wsL_law
abbrev r_X10_accept : Room := { frames := 0, cells := 0, slots := 0, locals := 0 }
set_option maxHeartbeats 4000000 in
set_option maxRecDepth 100000 in
theorem c_X10_accept (l : Launch) (D : va_G) (K : Nat → ClassId) (F : Nat) (hMn : Nat → Nat) (rMn0 : Nat) (rMn2 : Nat) (rMn3 : Nat) (rMn4 : Nat) (rMn5 : Nat) (rMn6 : Nat) (rMn7 : Nat) (rMn8 : Nat) (rMn9 : Nat) (rMn10 : Nat) (sz : Nat) (sMn : MS) (p1 : Int32) (res : Int32 × MS) (hf : f_X10_accept F p1 sMn = some res) : Met l yX10_accept wz_X10_accept r_X10_accept (va_Pc [.ref (hMn 99), .int p1] (PW D K (wMn K hMn rMn0 rMn2 rMn3 rMn4 rMn5 rMn6 rMn7 rMn8 rMn9 rMn10 sMn) sz)) (va_Qi (fun r u => r = res.1 ∧ u = res.2) (fun u t => BW D K (va_A (wMn K hMn rMn0 rMn2 rMn3 rMn4 rMn5 rMn6 rMn7 rMn8 rMn9 rMn10 sMn) sz) (wMn K hMn rMn0 rMn2 rMn3 rMn4 rMn5 rMn6 rMn7 rMn8 rMn9 rMn10 u) t) (va_A (wMn K hMn rMn0 rMn2 rMn3 rMn4 rMn5 rMn6 rMn7 rMn8 rMn9 rMn10 sMn) sz)) 0 0 (va_A (wMn K hMn rMn0 rMn2 rMn3 rMn4 rMn5 rMn6 rMn7 rMn8 rMn9 rMn10 sMn) sz) := by
  refine Met.ofW (cc := cX10_accept) (maxL := 2) (ret := (some .int)) (by decide) rfl ?_
  intro p e s m args below meth c s₁ B hml hv
  obtain ⟨hargs, hsz, hP, hK, hD0⟩ := hv
  have hx := B.exec
  have hb := B.bytes
  have hr := B.returns
  have hts := atoms_spec (ws := wz_X10_accept) B.pre
  have htl : ∀ w ∈ wsL_law, w.before args s = true := fun w h => hts w (List.mem_cons_of_mem _ h)
  have hown : s.vm.findClass RX10 = some m.cls := findClass_of_methodNamed B.named
  have hlocks := B.notSynchronized
  subst hsz
  have hD := hD0.self (sz := s.heap.size)
  generalize hAe : va_A (wMn K hMn rMn0 rMn2 rMn3 rMn4 rMn5 rMn6 rMn7 rMn8 rMn9 rMn10 sMn) s.heap.size = A at hD ⊢
  have hA : ∀ q : Nat, s.heap.size ≤ q → A q := fun q h => by rw [← hAe]; exact Or.inr h
  have hS : va_S A s.heap s.heap [] := va_S.rf
  have iX10 : ∀ w ∈ wsX100, w ∈ wz_X10_accept := fun w h => List.mem_cons_of_mem _ (inlX10 w h)
  suffices hgo : ∀ Q : State → Prop, Q = MQ below (va_Qi (fun r u => r = res.1 ∧ u = res.2) (fun u t => BW D K A (wMn K hMn rMn0 rMn2 rMn3 rMn4 rMn5 rMn6 rMn7 rMn8 rMn9 rMn10 u) t) A) args s 0 0 A → W p l e (headSpec wz_X10_accept r_X10_accept).room s m args below meth c s.heap [] 0 0 Q (entryFrame m args 2) from hgo _ rfl
  intro Q hQ
  have hen : entryFrame m args 2 = entryFrame m (([.ref (hMn 99), .int p1] : List Value).toArray) 2 := by rw [hargs]
  have hl := lv_entry ([.ref (hMn 99), .int p1]) (n := 2) (Nat.le_of_ble_eq_true rfl)
  rw [hen, lg_entry_eq]
  generalize (lg_sl ([.ref (hMn 99), .int p1]) ++ List.replicate (2 - (lg_sl ([.ref (hMn 99), .int p1])).length) Slot.unset).toArray = ls at hl ⊢
  have hl : lv_has ls 2 [(0, .ref (hMn 99)), (1, .int p1)] := hl
  unfold f_X10_accept at hf
  obtain ⟨H, hHe⟩ : ∃ z, z = s.heap := ⟨_, rfl⟩
  obtain ⟨locs, hLe⟩ : ∃ z : List Loc, z = [] := ⟨_, rfl⟩
  rw [← hLe]
  have hS : va_S A s.heap H locs := by rw [hHe, hLe]; exact hS
  have hP : va_P D vwCl (wMn K hMn rMn0 rMn2 rMn3 rMn4 rMn5 rMn6 rMn7 rMn8 rMn9 rMn10 sMn) H := by rw [hHe]; exact hP
  have hgo : W p l e (headSpec wz_X10_accept r_X10_accept).room s m args below meth c H locs 0 0 Q (F0 m 0 ls []) := by
    refine lv_aload_n hx hb dX10_accept_0 rfl (lv_at hl 0 rfl) ?_
    refine lv_iconst (v := (0 : Int32)) hx hb dX10_accept_1 (by decide) ?_
    refine va_put (D := D) (ci := 9) (v := .int (0 : Int32)) (ty := .int) (C := RX10) (T := TX10) (N := 14) hx hb hts iX10 tyX10 tyX10_ok nmX10 hown hK hP hD hS 0 o_Mn rfl 11 (by decide) (htl _ (mB7 _ (List.mem_of_getElem? (i := 22) rfl))) (fun _ h9 => h9) rfl (by decide +kernel) rfl rfl (Nat.le_of_ble_eq_true rfl) dX10_accept_2 (fun H locs hP hD hS => ?_)
    have hP := cvP si_Mn_11 hP
    have hD := cvD si_Mn_11 hD
    obtain ⟨s1, es1⟩ : ∃ z, z = sI sMn 11 (0 : Int32) := ⟨_, rfl⟩
    have hP : va_P D vwCl (wMn K hMn rMn0 rMn2 rMn3 rMn4 rMn5 rMn6 rMn7 rMn8 rMn9 rMn10 s1) H := by rw [es1]; exact hP
    have hD : va_D A (wMn K hMn rMn0 rMn2 rMn3 rMn4 rMn5 rMn6 rMn7 rMn8 rMn9 rMn10 s1) := by rw [es1]; exact hD
    have hf := lz_s hf s1 es1
    refine lv_iload_n hx hb dX10_accept_5 rfl (lv_at hl 1 rfl) ?_
    have e9 := Option.some.inj hf
    rw [hQ]
    exact W.iret (v := p1) hx hb hr (fun t ht hW => ⟨⟨p1, s1, rfl, ⟨pr1 e9, pr2 e9⟩, ⟨by rw [ht]; exact hP, va_K.moved hW.alike hK, hD⟩⟩, hS.F ht⟩) hS.2.2 dX10_accept_6
  rw [hHe] at hgo
  exact hgo

theorem gcV_X7_readRoad {T0 : Cond} {own : String} {i : Nat} (h : Cond.methodLink own i yX7_readRoad ∈ wsL_law) : GoodIn (T0 :: wsL_law) (wsV own i RX7 yX7_readRoad wz_X7_readRoad) := gV h (mB8 _ (List.mem_of_getElem? (i := 0) rfl)) (mB8 _ (List.mem_of_getElem? (i := 1) rfl)) (mB1 _ (List.mem_of_getElem? (i := 22) rfl)) (mB8 _ (List.mem_of_getElem? (i := 2) rfl))
theorem hdV_X7_readRoad : yX7_readRoad.cls = RX7 ∧ yX7_readRoad.cls ≠ "java/lang/invoke/MethodHandle" ∧ yX7_readRoad.cls ≠ "java/lang/invoke/VarHandle" ∧ (parseMethodDescriptor yX7_readRoad.desc).map (fun d => d.parameters.length) = some 3 := by decide +kernel
theorem gcV_X6_forget {T0 : Cond} {own : String} {i : Nat} (h : Cond.methodLink own i yX6_forget ∈ wsL_law) : GoodIn (T0 :: wsL_law) (wsV own i RX6 yX6_forget wz_X6_forget) := gV h (mB16 _ (List.mem_of_getElem? (i := 4) rfl)) (mB16 _ (List.mem_of_getElem? (i := 5) rfl)) (mB2 _ (List.mem_of_getElem? (i := 2) rfl)) (mB16 _ (List.mem_of_getElem? (i := 6) rfl))
theorem hdV_X6_forget : yX6_forget.cls = RX6 ∧ yX6_forget.cls ≠ "java/lang/invoke/MethodHandle" ∧ yX6_forget.cls ≠ "java/lang/invoke/VarHandle" ∧ (parseMethodDescriptor yX6_forget.desc).map (fun d => d.parameters.length) = some 0 := by decide +kernel
theorem gcV_X3_begin {T0 : Cond} {own : String} {i : Nat} (h : Cond.methodLink own i yX3_begin ∈ wsL_law) : GoodIn (T0 :: wsL_law) (wsV own i RX3 yX3_begin wz_X3_begin) := gV h (mB16 _ (List.mem_of_getElem? (i := 9) rfl)) (mB16 _ (List.mem_of_getElem? (i := 10) rfl)) (mB2 _ (List.mem_of_getElem? (i := 18) rfl)) (mB16 _ (List.mem_of_getElem? (i := 11) rfl))
theorem hdV_X3_begin : yX3_begin.cls = RX3 ∧ yX3_begin.cls ≠ "java/lang/invoke/MethodHandle" ∧ yX3_begin.cls ≠ "java/lang/invoke/VarHandle" ∧ (parseMethodDescriptor yX3_begin.desc).map (fun d => d.parameters.length) = some 1 := by decide +kernel
theorem gcV_X10_accept {T0 : Cond} {own : String} {i : Nat} (h : Cond.methodLink own i yX10_accept ∈ wsL_law) : GoodIn (T0 :: wsL_law) (wsV own i RX10 yX10_accept wz_X10_accept) := gV h (mB17 _ (List.mem_of_getElem? (i := 15) rfl)) (mB17 _ (List.mem_of_getElem? (i := 16) rfl)) (mB1 _ (List.mem_of_getElem? (i := 2) rfl)) (mB17 _ (List.mem_of_getElem? (i := 17) rfl))
theorem hdV_X10_accept : yX10_accept.cls = RX10 ∧ yX10_accept.cls ≠ "java/lang/invoke/MethodHandle" ∧ yX10_accept.cls ≠ "java/lang/invoke/VarHandle" ∧ (parseMethodDescriptor yX10_accept.desc).map (fun d => d.parameters.length) = some 1 := by decide +kernel
theorem gcV_X10_refuse {T0 : Cond} {own : String} {i : Nat} (h : Cond.methodLink own i yX10_refuse ∈ wsL_law) : GoodIn (T0 :: wsL_law) (wsV own i RX10 yX10_refuse wz_X10_refuse) := gV h (mB7 _ (List.mem_of_getElem? (i := 19) rfl)) (mB7 _ (List.mem_of_getElem? (i := 20) rfl)) (mB1 _ (List.mem_of_getElem? (i := 2) rfl)) (mB7 _ (List.mem_of_getElem? (i := 21) rfl))
theorem hdV_X10_refuse : yX10_refuse.cls = RX10 ∧ yX10_refuse.cls ≠ "java/lang/invoke/MethodHandle" ∧ yX10_refuse.cls ≠ "java/lang/invoke/VarHandle" ∧ (parseMethodDescriptor yX10_refuse.desc).map (fun d => d.parameters.length) = some 1 := by decide +kernel
def wz_X10_road : List Cond := .code yX10_road cX10_road 4 (some .int) :: wsL_law
abbrev r_X10_road : Room := { frames := 10, cells := 0, slots := 0, locals := 215 }
set_option maxHeartbeats 4000000 in
set_option maxRecDepth 100000 in
theorem c_X10_road (l : Launch) (D : va_G) (K : Nat → ClassId) (F : Nat) (adK adV : Nat → Nat) (tF : Nat) (hMn : Nat → Nat) (rMn2 : Nat) (rMn6 : Nat) (rMn7 : Nat) (rMn8 : Nat) (rMn10 : Nat) (hRd : Nat → Nat) (rRd2 : Nat) (rRd4 : Nat) (hPl : Nat → Nat) (gPl2 : Nat → Nat) (gPl3 : Nat → Nat) (hJo : Nat → Nat) (gJo4 : Nat → Nat) (gJo5 : Nat → Nat) (hJw : Nat → Nat) (aTp nTp : Nat) (hSp : Nat → Nat) (sz : Nat) (sMn : MS) (sRd : MS) (sPl : MS) (sJo : MS) (sJw : MS) (fTp : (Nat → Int32)) (sSp : MS) (p1 : Int32) (res : Int32 × Nat × MS × MS × MS × MS × MS × MS) (hf : f_X10_road F nTp fTp p1 sMn sRd sPl sJo sJw sSp = some res) : Met l yX10_road wz_X10_road r_X10_road (va_Pc [.ref (hMn 99), .int p1] (PWz D K adK adV tF (wMn K hMn aTp rMn2 (hSp 99) (hRd 99) (hPl 99) rMn6 rMn7 rMn8 (hJo 99) rMn10 sMn ++ wRd K hRd rRd2 rRd4 sRd ++ wPl K hPl gPl2 gPl3 sPl ++ wJo K hJo (hJw 99) gJo4 gJo5 sJo ++ wDw K hJw sJw ++ wAB K aTp nTp fTp ++ wRo K hSp sSp) sz)) (va_Qi (fun r u => r = res.1 ∧ u = res.2) (fun u t => BW D K (va_A (wMn K hMn aTp rMn2 (hSp 99) (hRd 99) (hPl 99) rMn6 rMn7 rMn8 (hJo 99) rMn10 sMn ++ wRd K hRd rRd2 rRd4 sRd ++ wPl K hPl gPl2 gPl3 sPl ++ wJo K hJo (hJw 99) gJo4 gJo5 sJo ++ wDw K hJw sJw ++ wAB K aTp nTp fTp ++ wRo K hSp sSp) sz) (match u.1 with | 0 => wMn K hMn aTp (hSp 99) rMn2 (hRd 99) (hPl 99) rMn6 rMn7 rMn8 (hJo 99) rMn10 u.2.1 ++ wRd K hRd aTp (hSp 99) u.2.2.1 ++ wPl K hPl gPl2 gPl3 u.2.2.2.1 ++ wJo K hJo (hJw 99) gJo4 gJo5 u.2.2.2.2.1 ++ wDw K hJw u.2.2.2.2.2.1 ++ wAB K aTp nTp fTp ++ wRo K hSp u.2.2.2.2.2.2 | 1 => wMn K hMn aTp rMn2 (hSp 99) (hRd 99) (hPl 99) rMn6 rMn7 rMn8 (hJo 99) rMn10 u.2.1 ++ wRd K hRd aTp (hSp 99) u.2.2.1 ++ wPl K hPl gPl2 gPl3 u.2.2.2.1 ++ wJo K hJo (hJw 99) gJo4 gJo5 u.2.2.2.2.1 ++ wDw K hJw u.2.2.2.2.2.1 ++ wAB K aTp nTp fTp ++ wRo K hSp u.2.2.2.2.2.2 | _ => wMn K hMn aTp rMn2 (hSp 99) (hRd 99) (hPl 99) rMn6 rMn7 rMn8 (hJo 99) rMn10 u.2.1 ++ wRd K hRd rRd2 rRd4 u.2.2.1 ++ wPl K hPl gPl2 gPl3 u.2.2.2.1 ++ wJo K hJo (hJw 99) gJo4 gJo5 u.2.2.2.2.1 ++ wDw K hJw u.2.2.2.2.2.1 ++ wAB K aTp nTp fTp ++ wRo K hSp u.2.2.2.2.2.2) t) (va_A (wMn K hMn aTp rMn2 (hSp 99) (hRd 99) (hPl 99) rMn6 rMn7 rMn8 (hJo 99) rMn10 sMn ++ wRd K hRd rRd2 rRd4 sRd ++ wPl K hPl gPl2 gPl3 sPl ++ wJo K hJo (hJw 99) gJo4 gJo5 sJo ++ wDw K hJw sJw ++ wAB K aTp nTp fTp ++ wRo K hSp sSp) sz)) 0 0 (va_A (wMn K hMn aTp rMn2 (hSp 99) (hRd 99) (hPl 99) rMn6 rMn7 rMn8 (hJo 99) rMn10 sMn ++ wRd K hRd rRd2 rRd4 sRd ++ wPl K hPl gPl2 gPl3 sPl ++ wJo K hJo (hJw 99) gJo4 gJo5 sJo ++ wDw K hJw sJw ++ wAB K aTp nTp fTp ++ wRo K hSp sSp) sz) := by
  refine Met.ofW (cc := cX10_road) (maxL := 4) (ret := (some .int)) (by decide) rfl ?_
  intro p e s m args below meth c s₁ B hml hv
  obtain ⟨hargs, ⟨hsz, hP, hK, hD0⟩, hZ⟩ := hv
  have hx := B.exec
  have hb := B.bytes
  have hr := B.returns
  have hts := atoms_spec (ws := wz_X10_road) B.pre
  have htl : ∀ w ∈ wsL_law, w.before args s = true := fun w h => hts w (List.mem_cons_of_mem _ h)
  have hown : s.vm.findClass RX10 = some m.cls := findClass_of_methodNamed B.named
  have hlocks := B.notSynchronized
  subst hsz
  have hD := hD0.self (sz := s.heap.size)
  generalize hAe : va_A (wMn K hMn aTp rMn2 (hSp 99) (hRd 99) (hPl 99) rMn6 rMn7 rMn8 (hJo 99) rMn10 sMn ++ wRd K hRd rRd2 rRd4 sRd ++ wPl K hPl gPl2 gPl3 sPl ++ wJo K hJo (hJw 99) gJo4 gJo5 sJo ++ wDw K hJw sJw ++ wAB K aTp nTp fTp ++ wRo K hSp sSp) s.heap.size = A at hD hZ ⊢
  have hA : ∀ q : Nat, s.heap.size ≤ q → A q := fun q h => by rw [← hAe]; exact Or.inr h
  have hS : va_S A s.heap s.heap [] := va_S.rf
  have iX10 : ∀ w ∈ wsX100, w ∈ wz_X10_road := fun w h => List.mem_cons_of_mem _ (inlX10 w h)
  have iX7 : ∀ w ∈ wsX70, w ∈ wz_X10_road := fun w h => List.mem_cons_of_mem _ (inlX7 w h)
  have iX9 : ∀ w ∈ wsX90, w ∈ wz_X10_road := fun w h => List.mem_cons_of_mem _ (inlX9 w h)
  suffices hgo : ∀ Q : State → Prop, Q = MQ below (va_Qi (fun r u => r = res.1 ∧ u = res.2) (fun u t => BW D K A (match u.1 with | 0 => wMn K hMn aTp (hSp 99) rMn2 (hRd 99) (hPl 99) rMn6 rMn7 rMn8 (hJo 99) rMn10 u.2.1 ++ wRd K hRd aTp (hSp 99) u.2.2.1 ++ wPl K hPl gPl2 gPl3 u.2.2.2.1 ++ wJo K hJo (hJw 99) gJo4 gJo5 u.2.2.2.2.1 ++ wDw K hJw u.2.2.2.2.2.1 ++ wAB K aTp nTp fTp ++ wRo K hSp u.2.2.2.2.2.2 | 1 => wMn K hMn aTp rMn2 (hSp 99) (hRd 99) (hPl 99) rMn6 rMn7 rMn8 (hJo 99) rMn10 u.2.1 ++ wRd K hRd aTp (hSp 99) u.2.2.1 ++ wPl K hPl gPl2 gPl3 u.2.2.2.1 ++ wJo K hJo (hJw 99) gJo4 gJo5 u.2.2.2.2.1 ++ wDw K hJw u.2.2.2.2.2.1 ++ wAB K aTp nTp fTp ++ wRo K hSp u.2.2.2.2.2.2 | _ => wMn K hMn aTp rMn2 (hSp 99) (hRd 99) (hPl 99) rMn6 rMn7 rMn8 (hJo 99) rMn10 u.2.1 ++ wRd K hRd rRd2 rRd4 u.2.2.1 ++ wPl K hPl gPl2 gPl3 u.2.2.2.1 ++ wJo K hJo (hJw 99) gJo4 gJo5 u.2.2.2.2.1 ++ wDw K hJw u.2.2.2.2.2.1 ++ wAB K aTp nTp fTp ++ wRo K hSp u.2.2.2.2.2.2) t) A) args s 0 0 A → W p l e (headSpec wz_X10_road r_X10_road).room s m args below meth c s.heap [] 0 0 Q (entryFrame m args 4) from hgo _ rfl
  intro Q hQ
  have w12 : ∀ (sMn : MS), ∀ (sRd : MS), ∀ (sPl : MS), ∀ (sJo : MS), ∀ (sJw : MS), ∀ (sSp : MS), ∀ (H : Heap) (locs : List Loc) (ls : Array Slot), f_X10_road_12 F nTp fTp p1 sMn sRd sPl sJo sJw sSp = some res → va_P D vwCl (wMn K hMn aTp rMn2 (hSp 99) (hRd 99) (hPl 99) rMn6 rMn7 rMn8 (hJo 99) rMn10 sMn ++ wRd K hRd rRd2 rRd4 sRd ++ wPl K hPl gPl2 gPl3 sPl ++ wJo K hJo (hJw 99) gJo4 gJo5 sJo ++ wDw K hJw sJw ++ wAB K aTp nTp fTp ++ wRo K hSp sSp) H → va_D A (wMn K hMn aTp rMn2 (hSp 99) (hRd 99) (hPl 99) rMn6 rMn7 rMn8 (hJo 99) rMn10 sMn ++ wRd K hRd rRd2 rRd4 sRd ++ wPl K hPl gPl2 gPl3 sPl ++ wJo K hJo (hJw 99) gJo4 gJo5 sJo ++ wDw K hJw sJw ++ wAB K aTp nTp fTp ++ wRo K hSp sSp) → va_S A s.heap H locs → lv_has ls 4 [(0, .ref (hMn 99))] → W p l e (headSpec wz_X10_road r_X10_road).room s m args below meth c H locs 0 0 Q (F0 m 12 ls []) := by
    intro sMn sRd sPl sJo sJw sSp H locs ls hf hP hD hS hl
    unfold f_X10_road_12 at hf
    refine lv_aload_n hx hb dX10_road_12 rfl (lv_at hl 0 rfl) ?_
    refine lv_iconst (v := (2 : Int32)) hx hb dX10_road_13 (by decide) ?_
    obtain ⟨o12, go12, hf⟩ := bd_s hf
    refine rk_Vi (wn := wMn K hMn aTp rMn2 (hSp 99) (hRd 99) (hPl 99) rMn6 rMn7 rMn8 (hJo 99) rMn10 o12.2 ++ wRd K hRd rRd2 rRd4 sRd ++ wPl K hPl gPl2 gPl3 sPl ++ wJo K hJo (hJw 99) gJo4 gJo5 sJo ++ wDw K hJw sJw ++ wAB K aTp nTp fTp ++ wRo K hSp sSp) [wMn K hMn aTp rMn2 (hSp 99) (hRd 99) (hPl 99) rMn6 rMn7 rMn8 (hJo 99) rMn10 sMn, wRd K hRd rRd2 rRd4 sRd, wPl K hPl gPl2 gPl3 sPl, wJo K hJo (hJw 99) gJo4 gJo5 sJo, wDw K hJw sJw, wAB K aTp nTp fTp, wRo K hSp sSp] [wMn K hMn aTp rMn2 (hSp 99) (hRd 99) (hPl 99) rMn6 rMn7 rMn8 (hJo 99) rMn10 sMn] [wMn K hMn aTp rMn2 (hSp 99) (hRd 99) (hPl 99) rMn6 rMn7 rMn8 (hJo 99) rMn10 o12.2] [wMn K hMn aTp rMn2 (hSp 99) (hRd 99) (hPl 99) rMn6 rMn7 rMn8 (hJo 99) rMn10 o12.2, wRd K hRd rRd2 rRd4 sRd, wPl K hPl gPl2 gPl3 sPl, wJo K hJo (hJw 99) gJo4 gJo5 sJo, wDw K hJw sJw, wAB K aTp nTp fTp, wRo K hSp sSp] (As := [.int (2 : Int32)]) (rest := []) ⟨hx, hb, hml, hown, hts⟩ (c_X10_refuse l D K F hMn aTp rMn2 (hSp 99) (hRd 99) (hPl 99) rMn6 rMn7 rMn8 (hJo 99) rMn10 H.size sMn (2 : Int32) o12 go12) (cwV 1 hts (gcV_X10_refuse (mB7 _ (List.mem_of_getElem? (i := 18) rfl))) rfl rfl rfl hdV_X10_refuse ⟨Nat.le_of_ble_eq_true rfl, Nat.le_of_ble_eq_true rfl⟩) hK hP hD hS hA [0] (fl7 _ _ _ _ _ _ _) rfl (by decide) (fl1 _) (fl1 _) rfl rfl (fl7 _ _ _ _ _ _ _) (va_recv hK hP (ci := 9) (q0 := 0) rfl (rwl (rwl (rwl (rwl (rwl (rwl o_Mn))))))) rfl hl.1 rfl (Nat.le_of_ble_eq_true rfl) dX10_road_14 ⟨Nat.zero_le _, Nat.zero_le _⟩ (fun H locs hP hD hS => ?_)
    have hP : va_P D vwCl (wMn K hMn aTp rMn2 (hSp 99) (hRd 99) (hPl 99) rMn6 rMn7 rMn8 (hJo 99) rMn10 o12.2 ++ wRd K hRd rRd2 rRd4 sRd ++ wPl K hPl gPl2 gPl3 sPl ++ wJo K hJo (hJw 99) gJo4 gJo5 sJo ++ wDw K hJw sJw ++ wAB K aTp nTp fTp ++ wRo K hSp sSp) H := hP
    have hD : va_D A (wMn K hMn aTp rMn2 (hSp 99) (hRd 99) (hPl 99) rMn6 rMn7 rMn8 (hJo 99) rMn10 o12.2 ++ wRd K hRd rRd2 rRd4 sRd ++ wPl K hPl gPl2 gPl3 sPl ++ wJo K hJo (hJw 99) gJo4 gJo5 sJo ++ wDw K hJw sJw ++ wAB K aTp nTp fTp ++ wRo K hSp sSp) := hD
    have e9 := Option.some.inj hf
    rw [hQ]
    exact W.iret (v := o12.1) hx hb hr (fun t ht hW => ⟨⟨o12.1, (2, o12.2, sRd, sPl, sJo, sJw, sSp), rfl, ⟨pr1 e9, pr2 e9⟩, ⟨by rw [ht]; exact hP, va_K.moved hW.alike hK, hD⟩⟩, hS.F ht⟩) hS.2.2 dX10_road_17
  have hen : entryFrame m args 4 = entryFrame m (([.ref (hMn 99), .int p1] : List Value).toArray) 4 := by rw [hargs]
  have hl := lv_entry ([.ref (hMn 99), .int p1]) (n := 4) (Nat.le_of_ble_eq_true rfl)
  rw [hen, lg_entry_eq]
  generalize (lg_sl ([.ref (hMn 99), .int p1]) ++ List.replicate (4 - (lg_sl ([.ref (hMn 99), .int p1])).length) Slot.unset).toArray = ls at hl ⊢
  have hl : lv_has ls 4 [(0, .ref (hMn 99)), (1, .int p1)] := hl
  unfold f_X10_road at hf
  obtain ⟨H, hHe⟩ : ∃ z, z = s.heap := ⟨_, rfl⟩
  obtain ⟨locs, hLe⟩ : ∃ z : List Loc, z = [] := ⟨_, rfl⟩
  rw [← hLe]
  have hS : va_S A s.heap H locs := by rw [hHe, hLe]; exact hS
  have hP : va_P D vwCl (wMn K hMn aTp rMn2 (hSp 99) (hRd 99) (hPl 99) rMn6 rMn7 rMn8 (hJo 99) rMn10 sMn ++ wRd K hRd rRd2 rRd4 sRd ++ wPl K hPl gPl2 gPl3 sPl ++ wJo K hJo (hJw 99) gJo4 gJo5 sJo ++ wDw K hJw sJw ++ wAB K aTp nTp fTp ++ wRo K hSp sSp) H := by rw [hHe]; exact hP
  have hgo : W p l e (headSpec wz_X10_road r_X10_road).room s m args below meth c H locs 0 0 Q (F0 m 0 ls []) := by
    refine lv_iload_n hx hb dX10_road_0 rfl (lv_at hl 1 rfl) ?_
    refine lv_if_lt (tgt := 12) hx hb dX10_road_1 (by decide) (fun c1 => ?_) (fun c1 => ?_)
    · have hf := it_t hf c1
      exact w12 sMn sRd sPl sJo sJw sSp H locs ls hf hP hD hS (lv_sub hl [0] rfl)
    · have hf := it_f hf c1
      refine lv_iload_n hx hb dX10_road_4 rfl (lv_at hl 1 rfl) ?_
      refine lv_aload_n hx hb dX10_road_5 rfl (lv_at hl 0 rfl) ?_
      refine va_get (D := D) (ci := 9) (v := .int (sMn.1 1)) (C := RX10) (T := TX10) (N := 14) hx hb hts iX10 hown hK hP 0 (rwl (rwl (rwl (rwl (rwl (rwl o_Mn)))))) rfl 1 (by decide) (htl _ (mB6 _ (List.mem_of_getElem? (i := 22) rfl))) (fun _ h9 => h9) rfl dX10_road_6 ?_
      refine lv_icmp_le (tgt := 18) hx hb dX10_road_9 (by decide) (fun c2 => ?_) (fun c2 => ?_)
      · have hf := it_t hf c2
        refine lv_aload_n hx hb dX10_road_18 rfl (lv_at hl 0 rfl) ?_
        refine lv_iconst (v := (0 : Int32)) hx hb dX10_road_19 (by decide) ?_
        refine va_put (D := D) (ci := 9) (v := .int (0 : Int32)) (ty := .int) (C := RX10) (T := TX10) (N := 14) hx hb hts iX10 tyX10 tyX10_ok nmX10 hown hK hP hD hS 0 (rwl (rwl (rwl (rwl (rwl (rwl o_Mn)))))) rfl 1 (by decide) (htl _ (mB6 _ (List.mem_of_getElem? (i := 22) rfl))) (fun _ h9 => h9) rfl (by decide +kernel) rfl rfl (Nat.le_of_ble_eq_true rfl) dX10_road_20 (fun H locs hP hD hS => ?_)
        have hP := cvP (stl (stl (stl (stl (stl (stl si_Mn_1 (rlt o_Mn)) (rlt (rwl o_Mn))) (rlt (rwl (rwl o_Mn)))) (rlt (rwl (rwl (rwl o_Mn))))) (rlt (rwl (rwl (rwl (rwl o_Mn)))))) (rlt (rwl (rwl (rwl (rwl (rwl o_Mn))))))) hP
        have hD := cvD (stl (stl (stl (stl (stl (stl si_Mn_1 (rlt o_Mn)) (rlt (rwl o_Mn))) (rlt (rwl (rwl o_Mn)))) (rlt (rwl (rwl (rwl o_Mn))))) (rlt (rwl (rwl (rwl (rwl o_Mn)))))) (rlt (rwl (rwl (rwl (rwl (rwl o_Mn))))))) hD
        obtain ⟨s3, es3⟩ : ∃ z, z = sI sMn 1 (0 : Int32) := ⟨_, rfl⟩
        have hP : va_P D vwCl (wMn K hMn aTp rMn2 (hSp 99) (hRd 99) (hPl 99) rMn6 rMn7 rMn8 (hJo 99) rMn10 s3 ++ wRd K hRd rRd2 rRd4 sRd ++ wPl K hPl gPl2 gPl3 sPl ++ wJo K hJo (hJw 99) gJo4 gJo5 sJo ++ wDw K hJw sJw ++ wAB K aTp nTp fTp ++ wRo K hSp sSp) H := by rw [es3]; exact hP
        have hD : va_D A (wMn K hMn aTp rMn2 (hSp 99) (hRd 99) (hPl 99) rMn6 rMn7 rMn8 (hJo 99) rMn10 s3 ++ wRd K hRd rRd2 rRd4 sRd ++ wPl K hPl gPl2 gPl3 sPl ++ wJo K hJo (hJw 99) gJo4 gJo5 sJo ++ wDw K hJw sJw ++ wAB K aTp nTp fTp ++ wRo K hSp sSp) := by rw [es3]; exact hD
        have hf := lz_s hf s3 es3
        refine lv_aload_n hx hb dX10_road_23 rfl (lv_at hl 0 rfl) ?_
        refine va_get (D := D) (ci := 9) (v := .ref (hRd 99)) (C := RX10) (T := TX10) (N := 14) hx hb hts iX10 hown hK hP 0 (rwl (rwl (rwl (rwl (rwl (rwl o_Mn)))))) rfl 4 (by decide) (htl _ (mB1 _ (List.mem_of_getElem? (i := 23) rfl))) (fun _ h9 => h9) rfl dX10_road_24 ?_
        refine lv_aload_n hx hb dX10_road_27 rfl (lv_at hl 0 rfl) ?_
        refine va_get (D := D) (ci := 9) (v := .ref aTp) (C := RX10) (T := TX10) (N := 14) hx hb hts iX10 hown hK hP 0 (rwl (rwl (rwl (rwl (rwl (rwl o_Mn)))))) rfl 0 (by decide) (htl _ (mB1 _ (List.mem_of_getElem? (i := 14) rfl))) (fun _ h9 => h9) rfl dX10_road_28 ?_
        refine lv_iload_n hx hb dX10_road_31 rfl (lv_at hl 1 rfl) ?_
        refine lv_aload_n hx hb dX10_road_32 rfl (lv_at hl 0 rfl) ?_
        refine va_get (D := D) (ci := 9) (v := .ref (hSp 99)) (C := RX10) (T := TX10) (N := 14) hx hb hts iX10 hown hK hP 0 (rwl (rwl (rwl (rwl (rwl (rwl o_Mn)))))) rfl 3 (by decide) (htl _ (mB1 _ (List.mem_of_getElem? (i := 19) rfl))) (fun _ h9 => h9) rfl dX10_road_33 ?_
        obtain ⟨o4, go4, hf⟩ := bd_s hf
        refine rk_Viz (wn := wMn K hMn aTp rMn2 (hSp 99) (hRd 99) (hPl 99) rMn6 rMn7 rMn8 (hJo 99) rMn10 s3 ++ wRd K hRd aTp (hSp 99) o4.2.1 ++ wPl K hPl gPl2 gPl3 sPl ++ wJo K hJo (hJw 99) gJo4 gJo5 sJo ++ wDw K hJw sJw ++ wAB K aTp nTp fTp ++ wRo K hSp o4.2.2) [wMn K hMn aTp rMn2 (hSp 99) (hRd 99) (hPl 99) rMn6 rMn7 rMn8 (hJo 99) rMn10 s3, wRd K hRd rRd2 rRd4 sRd, wPl K hPl gPl2 gPl3 sPl, wJo K hJo (hJw 99) gJo4 gJo5 sJo, wDw K hJw sJw, wAB K aTp nTp fTp, wRo K hSp sSp] [wRd K hRd rRd2 rRd4 sRd, wAB K aTp nTp fTp, wRo K hSp sSp] [wRd K hRd aTp (hSp 99) o4.2.1, wAB K aTp nTp fTp, wRo K hSp o4.2.2] [wMn K hMn aTp rMn2 (hSp 99) (hRd 99) (hPl 99) rMn6 rMn7 rMn8 (hJo 99) rMn10 s3, wRd K hRd aTp (hSp 99) o4.2.1, wPl K hPl gPl2 gPl3 sPl, wJo K hJo (hJw 99) gJo4 gJo5 sJo, wDw K hJw sJw, wAB K aTp nTp fTp, wRo K hSp o4.2.2] (As := [.ref aTp, .int p1, .ref (hSp 99)]) (rest := []) ⟨hx, hb, hml, hown, hts⟩ (c_X7_readRoad l D K F adK adV tF hRd rRd2 rRd4 aTp nTp hSp H.size sRd fTp sSp p1 o4 go4) (cwV 3 hts (gcV_X7_readRoad (mB7 _ (List.mem_of_getElem? (i := 23) rfl))) rfl rfl rfl hdV_X7_readRoad ⟨Nat.le_of_ble_eq_true rfl, Nat.le_of_ble_eq_true rfl⟩) hK hP hD hS hA hZ [1, 5, 6] (fl7 _ _ _ _ _ _ _) rfl (by decide) (fl3 _ _ _) (fl3 _ _ _) rfl rfl (fl7 _ _ _ _ _ _ _) (va_recv hK hP (ci := 6) (q0 := (1 + 0)) rfl (rwl (rwl (rwl (rwl (rwl (rwr ln_Mn o_Rd))))))) rfl hl.1 rfl (Nat.le_of_ble_eq_true rfl) dX10_road_36 ⟨Nat.zero_le _, Nat.zero_le _⟩ (fun H locs hP hD hS => ?_)
        have hP : va_P D vwCl (wMn K hMn aTp rMn2 (hSp 99) (hRd 99) (hPl 99) rMn6 rMn7 rMn8 (hJo 99) rMn10 s3 ++ wRd K hRd aTp (hSp 99) o4.2.1 ++ wPl K hPl gPl2 gPl3 sPl ++ wJo K hJo (hJw 99) gJo4 gJo5 sJo ++ wDw K hJw sJw ++ wAB K aTp nTp fTp ++ wRo K hSp o4.2.2) H := hP
        have hD : va_D A (wMn K hMn aTp rMn2 (hSp 99) (hRd 99) (hPl 99) rMn6 rMn7 rMn8 (hJo 99) rMn10 s3 ++ wRd K hRd aTp (hSp 99) o4.2.1 ++ wPl K hPl gPl2 gPl3 sPl ++ wJo K hJo (hJw 99) gJo4 gJo5 sJo ++ wDw K hJw sJw ++ wAB K aTp nTp fTp ++ wRo K hSp o4.2.2) := hD
        refine lv_istore_n (lv' := [(2, .int o4.1), (0, .ref (hMn 99)), (1, .int p1)]) hx hb dX10_road_39 rfl hl (by decide) rfl (fun ls hl => ?_)
        refine lv_aload_n hx hb dX10_road_40 rfl (lv_at hl 1 rfl) ?_
        refine lv_aload_n hx hb dX10_road_41 rfl (lv_at hl 1 rfl) ?_
        refine va_get (D := D) (ci := 9) (v := .ref (hRd 99)) (C := RX10) (T := TX10) (N := 14) hx hb hts iX10 hown hK hP 0 (rwl (rwl (rwl (rwl (rwl (rwl o_Mn)))))) rfl 4 (by decide) (htl _ (mB1 _ (List.mem_of_getElem? (i := 23) rfl))) (fun _ h9 => h9) rfl dX10_road_42 ?_
        refine va_get (D := D) (ci := 6) (v := .int (o4.2.1.1 0)) (C := RX7) (T := TX7) (N := 11) hx hb hts iX7 hown hK hP (1 + 0) (rwl (rwl (rwl (rwl (rwl (rwr ln_Mn o_Rd)))))) rfl 0 (by decide) (htl _ (mB7 _ (List.mem_of_getElem? (i := 13) rfl))) (fun _ h9 => h9) rfl dX10_road_45 ?_
        refine va_put (D := D) (ci := 9) (v := .int (o4.2.1.1 0)) (ty := .int) (C := RX10) (T := TX10) (N := 14) hx hb hts iX10 tyX10 tyX10_ok nmX10 hown hK hP hD hS 0 (rwl (rwl (rwl (rwl (rwl (rwl o_Mn)))))) rfl 12 (by decide) (htl _ (mB7 _ (List.mem_of_getElem? (i := 14) rfl))) (fun _ h9 => h9) rfl (by decide +kernel) rfl rfl (Nat.le_of_ble_eq_true rfl) dX10_road_48 (fun H locs hP hD hS => ?_)
        have hP := cvP (stl (stl (stl (stl (stl (stl si_Mn_12 (rlt o_Mn)) (rlt (rwl o_Mn))) (rlt (rwl (rwl o_Mn)))) (rlt (rwl (rwl (rwl o_Mn))))) (rlt (rwl (rwl (rwl (rwl o_Mn)))))) (rlt (rwl (rwl (rwl (rwl (rwl o_Mn))))))) hP
        have hD := cvD (stl (stl (stl (stl (stl (stl si_Mn_12 (rlt o_Mn)) (rlt (rwl o_Mn))) (rlt (rwl (rwl o_Mn)))) (rlt (rwl (rwl (rwl o_Mn))))) (rlt (rwl (rwl (rwl (rwl o_Mn)))))) (rlt (rwl (rwl (rwl (rwl (rwl o_Mn))))))) hD
        obtain ⟨s5, es5⟩ : ∃ z, z = sI s3 12 (o4.2.1.1 0) := ⟨_, rfl⟩
        have hP : va_P D vwCl (wMn K hMn aTp rMn2 (hSp 99) (hRd 99) (hPl 99) rMn6 rMn7 rMn8 (hJo 99) rMn10 s5 ++ wRd K hRd aTp (hSp 99) o4.2.1 ++ wPl K hPl gPl2 gPl3 sPl ++ wJo K hJo (hJw 99) gJo4 gJo5 sJo ++ wDw K hJw sJw ++ wAB K aTp nTp fTp ++ wRo K hSp o4.2.2) H := by rw [es5]; exact hP
        have hD : va_D A (wMn K hMn aTp rMn2 (hSp 99) (hRd 99) (hPl 99) rMn6 rMn7 rMn8 (hJo 99) rMn10 s5 ++ wRd K hRd aTp (hSp 99) o4.2.1 ++ wPl K hPl gPl2 gPl3 sPl ++ wJo K hJo (hJw 99) gJo4 gJo5 sJo ++ wDw K hJw sJw ++ wAB K aTp nTp fTp ++ wRo K hSp o4.2.2) := by rw [es5]; exact hD
        have hf := lz_s hf s5 es5
        refine lv_aload_n hx hb dX10_road_51 rfl (lv_at hl 1 rfl) ?_
        refine lv_aload_n hx hb dX10_road_52 rfl (lv_at hl 1 rfl) ?_
        refine va_get (D := D) (ci := 9) (v := .ref (hRd 99)) (C := RX10) (T := TX10) (N := 14) hx hb hts iX10 hown hK hP 0 (rwl (rwl (rwl (rwl (rwl (rwl o_Mn)))))) rfl 4 (by decide) (htl _ (mB1 _ (List.mem_of_getElem? (i := 23) rfl))) (fun _ h9 => h9) rfl dX10_road_53 ?_
        refine va_get (D := D) (ci := 6) (v := .int (o4.2.1.1 1)) (C := RX7) (T := TX7) (N := 11) hx hb hts iX7 hown hK hP (1 + 0) (rwl (rwl (rwl (rwl (rwl (rwr ln_Mn o_Rd)))))) rfl 1 (by decide) (htl _ (mB7 _ (List.mem_of_getElem? (i := 15) rfl))) (fun _ h9 => h9) rfl dX10_road_56 ?_
        refine va_put (D := D) (ci := 9) (v := .int (o4.2.1.1 1)) (ty := .int) (C := RX10) (T := TX10) (N := 14) hx hb hts iX10 tyX10 tyX10_ok nmX10 hown hK hP hD hS 0 (rwl (rwl (rwl (rwl (rwl (rwl o_Mn)))))) rfl 13 (by decide) (htl _ (mB7 _ (List.mem_of_getElem? (i := 16) rfl))) (fun _ h9 => h9) rfl (by decide +kernel) rfl rfl (Nat.le_of_ble_eq_true rfl) dX10_road_59 (fun H locs hP hD hS => ?_)
        have hP := cvP (stl (stl (stl (stl (stl (stl si_Mn_13 (rlt o_Mn)) (rlt (rwl o_Mn))) (rlt (rwl (rwl o_Mn)))) (rlt (rwl (rwl (rwl o_Mn))))) (rlt (rwl (rwl (rwl (rwl o_Mn)))))) (rlt (rwl (rwl (rwl (rwl (rwl o_Mn))))))) hP
        have hD := cvD (stl (stl (stl (stl (stl (stl si_Mn_13 (rlt o_Mn)) (rlt (rwl o_Mn))) (rlt (rwl (rwl o_Mn)))) (rlt (rwl (rwl (rwl o_Mn))))) (rlt (rwl (rwl (rwl (rwl o_Mn)))))) (rlt (rwl (rwl (rwl (rwl (rwl o_Mn))))))) hD
        obtain ⟨s6, es6⟩ : ∃ z, z = sI s5 13 (o4.2.1.1 1) := ⟨_, rfl⟩
        have hP : va_P D vwCl (wMn K hMn aTp rMn2 (hSp 99) (hRd 99) (hPl 99) rMn6 rMn7 rMn8 (hJo 99) rMn10 s6 ++ wRd K hRd aTp (hSp 99) o4.2.1 ++ wPl K hPl gPl2 gPl3 sPl ++ wJo K hJo (hJw 99) gJo4 gJo5 sJo ++ wDw K hJw sJw ++ wAB K aTp nTp fTp ++ wRo K hSp o4.2.2) H := by rw [es6]; exact hP
        have hD : va_D A (wMn K hMn aTp rMn2 (hSp 99) (hRd 99) (hPl 99) rMn6 rMn7 rMn8 (hJo 99) rMn10 s6 ++ wRd K hRd aTp (hSp 99) o4.2.1 ++ wPl K hPl gPl2 gPl3 sPl ++ wJo K hJo (hJw 99) gJo4 gJo5 sJo ++ wDw K hJw sJw ++ wAB K aTp nTp fTp ++ wRo K hSp o4.2.2) := by rw [es6]; exact hD
        have hf := lz_s hf s6 es6
        refine lv_iload_n hx hb dX10_road_62 rfl (lv_at hl 0 rfl) ?_
        refine lv_if_ne (tgt := 72) hx hb dX10_road_63 (by decide) (fun c7 => ?_) (fun c7 => ?_)
        · have hf := it_f hf c7
          refine lv_aload_n hx hb dX10_road_72 rfl (lv_at hl 1 rfl) ?_
          refine va_get (D := D) (ci := 9) (v := .ref rMn2) (C := RX10) (T := TX10) (N := 14) hx hb hts iX10 hown hK hP 0 (rwl (rwl (rwl (rwl (rwl (rwl o_Mn)))))) rfl 2 (by decide) (htl _ (mB1 _ (List.mem_of_getElem? (i := 18) rfl))) (fun _ h9 => h9) rfl dX10_road_73 ?_
          refine lv_astore_n (lv' := [(3, .ref rMn2), (2, .int o4.1), (0, .ref (hMn 99)), (1, .int p1)]) hx hb dX10_road_76 rfl hl (by decide) rfl (fun ls hl => ?_)
          refine lv_aload_n hx hb dX10_road_77 rfl (lv_at hl 2 rfl) ?_
          refine lv_aload_n hx hb dX10_road_78 rfl (lv_at hl 2 rfl) ?_
          refine va_get (D := D) (ci := 9) (v := .ref (hSp 99)) (C := RX10) (T := TX10) (N := 14) hx hb hts iX10 hown hK hP 0 (rwl (rwl (rwl (rwl (rwl (rwl o_Mn)))))) rfl 3 (by decide) (htl _ (mB1 _ (List.mem_of_getElem? (i := 19) rfl))) (fun _ h9 => h9) rfl dX10_road_79 ?_
          refine va_put (D := D) (ci := 9) (v := .ref (hSp 99)) (ty := .object "LastsToNext$Road") (C := RX10) (T := TX10) (N := 14) hx hb hts iX10 tyX10 tyX10_ok nmX10 hown hK hP hD hS 0 (rwl (rwl (rwl (rwl (rwl (rwl o_Mn)))))) rfl 2 (by decide) (htl _ (mB1 _ (List.mem_of_getElem? (i := 18) rfl))) (fun _ h9 => h9) rfl (by decide +kernel) rfl rfl (Nat.le_of_ble_eq_true rfl) dX10_road_82 (fun H locs hP hD hS => ?_)
          have hP := cvP (stl (stl (stl (stl (stl (stl si_Mn_2 (rlt o_Mn)) (rlt (rwl o_Mn))) (rlt (rwl (rwl o_Mn)))) (rlt (rwl (rwl (rwl o_Mn))))) (rlt (rwl (rwl (rwl (rwl o_Mn)))))) (rlt (rwl (rwl (rwl (rwl (rwl o_Mn))))))) hP
          have hD := cvD (stl (stl (stl (stl (stl (stl si_Mn_2 (rlt o_Mn)) (rlt (rwl o_Mn))) (rlt (rwl (rwl o_Mn)))) (rlt (rwl (rwl (rwl o_Mn))))) (rlt (rwl (rwl (rwl (rwl o_Mn)))))) (rlt (rwl (rwl (rwl (rwl (rwl o_Mn))))))) hD
          have hP : va_P D vwCl (wMn K hMn aTp (hSp 99) (hSp 99) (hRd 99) (hPl 99) rMn6 rMn7 rMn8 (hJo 99) rMn10 s6 ++ wRd K hRd aTp (hSp 99) o4.2.1 ++ wPl K hPl gPl2 gPl3 sPl ++ wJo K hJo (hJw 99) gJo4 gJo5 sJo ++ wDw K hJw sJw ++ wAB K aTp nTp fTp ++ wRo K hSp o4.2.2) H := hP
          have hD : va_D A (wMn K hMn aTp (hSp 99) (hSp 99) (hRd 99) (hPl 99) rMn6 rMn7 rMn8 (hJo 99) rMn10 s6 ++ wRd K hRd aTp (hSp 99) o4.2.1 ++ wPl K hPl gPl2 gPl3 sPl ++ wJo K hJo (hJw 99) gJo4 gJo5 sJo ++ wDw K hJw sJw ++ wAB K aTp nTp fTp ++ wRo K hSp o4.2.2) := hD
          refine lv_aload_n hx hb dX10_road_85 rfl (lv_at hl 2 rfl) ?_
          refine lv_aload_n hx hb dX10_road_86 rfl (lv_at hl 0 rfl) ?_
          refine va_put (D := D) (ci := 9) (v := .ref rMn2) (ty := .object "LastsToNext$Road") (C := RX10) (T := TX10) (N := 14) hx hb hts iX10 tyX10 tyX10_ok nmX10 hown hK hP hD hS 0 (rwl (rwl (rwl (rwl (rwl (rwl o_Mn)))))) rfl 3 (by decide) (htl _ (mB1 _ (List.mem_of_getElem? (i := 19) rfl))) (fun _ h9 => h9) rfl (by decide +kernel) rfl rfl (Nat.le_of_ble_eq_true rfl) dX10_road_87 (fun H locs hP hD hS => ?_)
          have hP := cvP (stl (stl (stl (stl (stl (stl si_Mn_3 (rlt o_Mn)) (rlt (rwl o_Mn))) (rlt (rwl (rwl o_Mn)))) (rlt (rwl (rwl (rwl o_Mn))))) (rlt (rwl (rwl (rwl (rwl o_Mn)))))) (rlt (rwl (rwl (rwl (rwl (rwl o_Mn))))))) hP
          have hD := cvD (stl (stl (stl (stl (stl (stl si_Mn_3 (rlt o_Mn)) (rlt (rwl o_Mn))) (rlt (rwl (rwl o_Mn)))) (rlt (rwl (rwl (rwl o_Mn))))) (rlt (rwl (rwl (rwl (rwl o_Mn)))))) (rlt (rwl (rwl (rwl (rwl (rwl o_Mn))))))) hD
          have hP : va_P D vwCl (wMn K hMn aTp (hSp 99) rMn2 (hRd 99) (hPl 99) rMn6 rMn7 rMn8 (hJo 99) rMn10 s6 ++ wRd K hRd aTp (hSp 99) o4.2.1 ++ wPl K hPl gPl2 gPl3 sPl ++ wJo K hJo (hJw 99) gJo4 gJo5 sJo ++ wDw K hJw sJw ++ wAB K aTp nTp fTp ++ wRo K hSp o4.2.2) H := hP
          have hD : va_D A (wMn K hMn aTp (hSp 99) rMn2 (hRd 99) (hPl 99) rMn6 rMn7 rMn8 (hJo 99) rMn10 s6 ++ wRd K hRd aTp (hSp 99) o4.2.1 ++ wPl K hPl gPl2 gPl3 sPl ++ wJo K hJo (hJw 99) gJo4 gJo5 sJo ++ wDw K hJw sJw ++ wAB K aTp nTp fTp ++ wRo K hSp o4.2.2) := hD
          refine lv_aload_n hx hb dX10_road_90 rfl (lv_at hl 2 rfl) ?_
          refine va_get (D := D) (ci := 9) (v := .ref (hPl 99)) (C := RX10) (T := TX10) (N := 14) hx hb hts iX10 hown hK hP 0 (rwl (rwl (rwl (rwl (rwl (rwl o_Mn)))))) rfl 5 (by decide) (htl _ (mB2 _ (List.mem_of_getElem? (i := 3) rfl))) (fun _ h9 => h9) rfl dX10_road_91 ?_
          obtain ⟨o8, go8, hf⟩ := bd_s hf
          refine rk_Vv (wn := wMn K hMn aTp (hSp 99) rMn2 (hRd 99) (hPl 99) rMn6 rMn7 rMn8 (hJo 99) rMn10 s6 ++ wRd K hRd aTp (hSp 99) o4.2.1 ++ wPl K hPl gPl2 gPl3 o8 ++ wJo K hJo (hJw 99) gJo4 gJo5 sJo ++ wDw K hJw sJw ++ wAB K aTp nTp fTp ++ wRo K hSp o4.2.2) [wMn K hMn aTp (hSp 99) rMn2 (hRd 99) (hPl 99) rMn6 rMn7 rMn8 (hJo 99) rMn10 s6, wRd K hRd aTp (hSp 99) o4.2.1, wPl K hPl gPl2 gPl3 sPl, wJo K hJo (hJw 99) gJo4 gJo5 sJo, wDw K hJw sJw, wAB K aTp nTp fTp, wRo K hSp o4.2.2] [wPl K hPl gPl2 gPl3 sPl] [wPl K hPl gPl2 gPl3 o8] [wMn K hMn aTp (hSp 99) rMn2 (hRd 99) (hPl 99) rMn6 rMn7 rMn8 (hJo 99) rMn10 s6, wRd K hRd aTp (hSp 99) o4.2.1, wPl K hPl gPl2 gPl3 o8, wJo K hJo (hJw 99) gJo4 gJo5 sJo, wDw K hJw sJw, wAB K aTp nTp fTp, wRo K hSp o4.2.2] (As := []) (rest := []) ⟨hx, hb, hml, hown, hts⟩ (c_X6_forget l D K F hPl gPl2 gPl3 H.size sPl o8 go8) (cwV 0 hts (gcV_X6_forget (mB16 _ (List.mem_of_getElem? (i := 3) rfl))) rfl rfl rfl hdV_X6_forget ⟨Nat.le_of_ble_eq_true rfl, Nat.le_of_ble_eq_true rfl⟩) hK hP hD hS hA [2] (fl7 _ _ _ _ _ _ _) rfl (by decide) (fl1 _) (fl1 _) rfl rfl (fl7 _ _ _ _ _ _ _) (va_recv hK hP (ci := 5) (q0 := ((1 + 3) + 0)) rfl (rwl (rwl (rwl (rwl (rwr (lnA ln_Mn ln_Rd) o_Pl)))))) rfl hl.1 rfl (Nat.le_of_ble_eq_true rfl) dX10_road_94 ⟨Nat.zero_le _, Nat.zero_le _⟩ (fun H locs hP hD hS => ?_)
          have hP : va_P D vwCl (wMn K hMn aTp (hSp 99) rMn2 (hRd 99) (hPl 99) rMn6 rMn7 rMn8 (hJo 99) rMn10 s6 ++ wRd K hRd aTp (hSp 99) o4.2.1 ++ wPl K hPl gPl2 gPl3 o8 ++ wJo K hJo (hJw 99) gJo4 gJo5 sJo ++ wDw K hJw sJw ++ wAB K aTp nTp fTp ++ wRo K hSp o4.2.2) H := hP
          have hD : va_D A (wMn K hMn aTp (hSp 99) rMn2 (hRd 99) (hPl 99) rMn6 rMn7 rMn8 (hJo 99) rMn10 s6 ++ wRd K hRd aTp (hSp 99) o4.2.1 ++ wPl K hPl gPl2 gPl3 o8 ++ wJo K hJo (hJw 99) gJo4 gJo5 sJo ++ wDw K hJw sJw ++ wAB K aTp nTp fTp ++ wRo K hSp o4.2.2) := hD
          refine lv_aload_n hx hb dX10_road_97 rfl (lv_at hl 2 rfl) ?_
          refine va_get (D := D) (ci := 9) (v := .ref (hJo 99)) (C := RX10) (T := TX10) (N := 14) hx hb hts iX10 hown hK hP 0 (rwl (rwl (rwl (rwl (rwl (rwl o_Mn)))))) rfl 9 (by decide) (htl _ (mB2 _ (List.mem_of_getElem? (i := 19) rfl))) (fun _ h9 => h9) rfl dX10_road_98 ?_
          refine lv_aload_n hx hb dX10_road_101 rfl (lv_at hl 2 rfl) ?_
          refine va_get (D := D) (ci := 9) (v := .ref (hSp 99)) (C := RX10) (T := TX10) (N := 14) hx hb hts iX10 hown hK hP 0 (rwl (rwl (rwl (rwl (rwl (rwl o_Mn)))))) rfl 2 (by decide) (htl _ (mB1 _ (List.mem_of_getElem? (i := 18) rfl))) (fun _ h9 => h9) rfl dX10_road_102 ?_
          obtain ⟨o9, go9, hf⟩ := bd_s hf
          refine rk_Vv (wn := wMn K hMn aTp (hSp 99) rMn2 (hRd 99) (hPl 99) rMn6 rMn7 rMn8 (hJo 99) rMn10 s6 ++ wRd K hRd aTp (hSp 99) o4.2.1 ++ wPl K hPl gPl2 gPl3 o8 ++ wJo K hJo (hJw 99) gJo4 gJo5 o9.2 ++ wDw K hJw o9.1 ++ wAB K aTp nTp fTp ++ wRo K hSp o4.2.2) [wMn K hMn aTp (hSp 99) rMn2 (hRd 99) (hPl 99) rMn6 rMn7 rMn8 (hJo 99) rMn10 s6, wRd K hRd aTp (hSp 99) o4.2.1, wPl K hPl gPl2 gPl3 o8, wJo K hJo (hJw 99) gJo4 gJo5 sJo, wDw K hJw sJw, wAB K aTp nTp fTp, wRo K hSp o4.2.2] [wDw K hJw sJw, wJo K hJo (hJw 99) gJo4 gJo5 sJo, wRo K hSp o4.2.2] [wDw K hJw o9.1, wJo K hJo (hJw 99) gJo4 gJo5 o9.2, wRo K hSp o4.2.2] [wMn K hMn aTp (hSp 99) rMn2 (hRd 99) (hPl 99) rMn6 rMn7 rMn8 (hJo 99) rMn10 s6, wRd K hRd aTp (hSp 99) o4.2.1, wPl K hPl gPl2 gPl3 o8, wJo K hJo (hJw 99) gJo4 gJo5 o9.2, wDw K hJw o9.1, wAB K aTp nTp fTp, wRo K hSp o4.2.2] (As := [.ref (hSp 99)]) (rest := []) ⟨hx, hb, hml, hown, hts⟩ (c_X3_begin l D K F hJw hJo gJo4 gJo5 hSp H.size sJw sJo o4.2.2 o9 go9) (cwV 1 hts (gcV_X3_begin (mB16 _ (List.mem_of_getElem? (i := 8) rfl))) rfl rfl rfl hdV_X3_begin ⟨Nat.le_of_ble_eq_true rfl, Nat.le_of_ble_eq_true rfl⟩) hK hP hD hS hA [4, 3, 6] (fl7 _ _ _ _ _ _ _) rfl (by decide) (fl3 _ _ _) (fl3 _ _ _) rfl rfl (fl7 _ _ _ _ _ _ _) (va_recv hK hP (ci := 3) (q0 := (((1 + 3) + 5) + 0)) rfl (rwl (rwl (rwl (rwr (lnA (lnA ln_Mn ln_Rd) ln_Pl) o_Jo))))) rfl hl.1 rfl (Nat.le_of_ble_eq_true rfl) dX10_road_105 ⟨Nat.zero_le _, Nat.zero_le _⟩ (fun H locs hP hD hS => ?_)
          have hP : va_P D vwCl (wMn K hMn aTp (hSp 99) rMn2 (hRd 99) (hPl 99) rMn6 rMn7 rMn8 (hJo 99) rMn10 s6 ++ wRd K hRd aTp (hSp 99) o4.2.1 ++ wPl K hPl gPl2 gPl3 o8 ++ wJo K hJo (hJw 99) gJo4 gJo5 o9.2 ++ wDw K hJw o9.1 ++ wAB K aTp nTp fTp ++ wRo K hSp o4.2.2) H := hP
          have hD : va_D A (wMn K hMn aTp (hSp 99) rMn2 (hRd 99) (hPl 99) rMn6 rMn7 rMn8 (hJo 99) rMn10 s6 ++ wRd K hRd aTp (hSp 99) o4.2.1 ++ wPl K hPl gPl2 gPl3 o8 ++ wJo K hJo (hJw 99) gJo4 gJo5 o9.2 ++ wDw K hJw o9.1 ++ wAB K aTp nTp fTp ++ wRo K hSp o4.2.2) := hD
          refine lv_aload_n hx hb dX10_road_108 rfl (lv_at hl 2 rfl) ?_
          refine lv_aload_n hx hb dX10_road_109 rfl (lv_at hl 2 rfl) ?_
          refine va_get (D := D) (ci := 9) (v := .ref (hSp 99)) (C := RX10) (T := TX10) (N := 14) hx hb hts iX10 hown hK hP 0 (rwl (rwl (rwl (rwl (rwl (rwl o_Mn)))))) rfl 2 (by decide) (htl _ (mB1 _ (List.mem_of_getElem? (i := 18) rfl))) (fun _ h9 => h9) rfl dX10_road_110 ?_
          refine va_get (D := D) (ci := 8) (v := .int (o4.2.2.1 8)) (C := RX9) (T := TX9) (N := 19) hx hb hts iX9 hown hK hP ((((((1 + 3) + 5) + 4) + 1) + 1) + 0) (rwr (lnA (lnA (lnA (lnA (lnA ln_Mn ln_Rd) ln_Pl) ln_Jo) ln_Dw) ln_AB) o_Ro) rfl 8 (by decide) (htl _ (mB7 _ (List.mem_of_getElem? (i := 17) rfl))) (fun _ h9 => h9) rfl dX10_road_113 ?_
          obtain ⟨o10, go10, hf⟩ := bd_s hf
          refine rk_Vi (wn := wMn K hMn aTp (hSp 99) rMn2 (hRd 99) (hPl 99) rMn6 rMn7 rMn8 (hJo 99) rMn10 o10.2 ++ wRd K hRd aTp (hSp 99) o4.2.1 ++ wPl K hPl gPl2 gPl3 o8 ++ wJo K hJo (hJw 99) gJo4 gJo5 o9.2 ++ wDw K hJw o9.1 ++ wAB K aTp nTp fTp ++ wRo K hSp o4.2.2) [wMn K hMn aTp (hSp 99) rMn2 (hRd 99) (hPl 99) rMn6 rMn7 rMn8 (hJo 99) rMn10 s6, wRd K hRd aTp (hSp 99) o4.2.1, wPl K hPl gPl2 gPl3 o8, wJo K hJo (hJw 99) gJo4 gJo5 o9.2, wDw K hJw o9.1, wAB K aTp nTp fTp, wRo K hSp o4.2.2] [wMn K hMn aTp (hSp 99) rMn2 (hRd 99) (hPl 99) rMn6 rMn7 rMn8 (hJo 99) rMn10 s6] [wMn K hMn aTp (hSp 99) rMn2 (hRd 99) (hPl 99) rMn6 rMn7 rMn8 (hJo 99) rMn10 o10.2] [wMn K hMn aTp (hSp 99) rMn2 (hRd 99) (hPl 99) rMn6 rMn7 rMn8 (hJo 99) rMn10 o10.2, wRd K hRd aTp (hSp 99) o4.2.1, wPl K hPl gPl2 gPl3 o8, wJo K hJo (hJw 99) gJo4 gJo5 o9.2, wDw K hJw o9.1, wAB K aTp nTp fTp, wRo K hSp o4.2.2] (As := [.int (o4.2.2.1 8)]) (rest := []) ⟨hx, hb, hml, hown, hts⟩ (c_X10_accept l D K F hMn aTp (hSp 99) rMn2 (hRd 99) (hPl 99) rMn6 rMn7 rMn8 (hJo 99) rMn10 H.size s6 (o4.2.2.1 8) o10 go10) (cwV 1 hts (gcV_X10_accept (mB17 _ (List.mem_of_getElem? (i := 14) rfl))) rfl rfl rfl hdV_X10_accept ⟨Nat.le_of_ble_eq_true rfl, Nat.le_of_ble_eq_true rfl⟩) hK hP hD hS hA [0] (fl7 _ _ _ _ _ _ _) rfl (by decide) (fl1 _) (fl1 _) rfl rfl (fl7 _ _ _ _ _ _ _) (va_recv hK hP (ci := 9) (q0 := 0) rfl (rwl (rwl (rwl (rwl (rwl (rwl o_Mn))))))) rfl hl.1 rfl (Nat.le_of_ble_eq_true rfl) dX10_road_116 ⟨Nat.zero_le _, Nat.zero_le _⟩ (fun H locs hP hD hS => ?_)
          have hP : va_P D vwCl (wMn K hMn aTp (hSp 99) rMn2 (hRd 99) (hPl 99) rMn6 rMn7 rMn8 (hJo 99) rMn10 o10.2 ++ wRd K hRd aTp (hSp 99) o4.2.1 ++ wPl K hPl gPl2 gPl3 o8 ++ wJo K hJo (hJw 99) gJo4 gJo5 o9.2 ++ wDw K hJw o9.1 ++ wAB K aTp nTp fTp ++ wRo K hSp o4.2.2) H := hP
          have hD : va_D A (wMn K hMn aTp (hSp 99) rMn2 (hRd 99) (hPl 99) rMn6 rMn7 rMn8 (hJo 99) rMn10 o10.2 ++ wRd K hRd aTp (hSp 99) o4.2.1 ++ wPl K hPl gPl2 gPl3 o8 ++ wJo K hJo (hJw 99) gJo4 gJo5 o9.2 ++ wDw K hJw o9.1 ++ wAB K aTp nTp fTp ++ wRo K hSp o4.2.2) := hD
          have e9 := Option.some.inj hf
          rw [hQ]
          exact W.iret (v := o10.1) hx hb hr (fun t ht hW => ⟨⟨o10.1, (0, o10.2, o4.2.1, o8, o9.2, o9.1, o4.2.2), rfl, ⟨pr1 e9, pr2 e9⟩, ⟨by rw [ht]; exact hP, va_K.moved hW.alike hK, hD⟩⟩, hS.F ht⟩) hS.2.2 dX10_road_119
        · have hf := it_t hf c7
          refine lv_aload_n hx hb dX10_road_66 rfl (lv_at hl 1 rfl) ?_
          refine lv_iconst (v := (4 : Int32)) hx hb dX10_road_67 (by decide) ?_
          obtain ⟨o11, go11, hf⟩ := bd_s hf
          refine rk_Vi (wn := wMn K hMn aTp rMn2 (hSp 99) (hRd 99) (hPl 99) rMn6 rMn7 rMn8 (hJo 99) rMn10 o11.2 ++ wRd K hRd aTp (hSp 99) o4.2.1 ++ wPl K hPl gPl2 gPl3 sPl ++ wJo K hJo (hJw 99) gJo4 gJo5 sJo ++ wDw K hJw sJw ++ wAB K aTp nTp fTp ++ wRo K hSp o4.2.2) [wMn K hMn aTp rMn2 (hSp 99) (hRd 99) (hPl 99) rMn6 rMn7 rMn8 (hJo 99) rMn10 s6, wRd K hRd aTp (hSp 99) o4.2.1, wPl K hPl gPl2 gPl3 sPl, wJo K hJo (hJw 99) gJo4 gJo5 sJo, wDw K hJw sJw, wAB K aTp nTp fTp, wRo K hSp o4.2.2] [wMn K hMn aTp rMn2 (hSp 99) (hRd 99) (hPl 99) rMn6 rMn7 rMn8 (hJo 99) rMn10 s6] [wMn K hMn aTp rMn2 (hSp 99) (hRd 99) (hPl 99) rMn6 rMn7 rMn8 (hJo 99) rMn10 o11.2] [wMn K hMn aTp rMn2 (hSp 99) (hRd 99) (hPl 99) rMn6 rMn7 rMn8 (hJo 99) rMn10 o11.2, wRd K hRd aTp (hSp 99) o4.2.1, wPl K hPl gPl2 gPl3 sPl, wJo K hJo (hJw 99) gJo4 gJo5 sJo, wDw K hJw sJw, wAB K aTp nTp fTp, wRo K hSp o4.2.2] (As := [.int (4 : Int32)]) (rest := []) ⟨hx, hb, hml, hown, hts⟩ (c_X10_refuse l D K F hMn aTp rMn2 (hSp 99) (hRd 99) (hPl 99) rMn6 rMn7 rMn8 (hJo 99) rMn10 H.size s6 (4 : Int32) o11 go11) (cwV 1 hts (gcV_X10_refuse (mB7 _ (List.mem_of_getElem? (i := 18) rfl))) rfl rfl rfl hdV_X10_refuse ⟨Nat.le_of_ble_eq_true rfl, Nat.le_of_ble_eq_true rfl⟩) hK hP hD hS hA [0] (fl7 _ _ _ _ _ _ _) rfl (by decide) (fl1 _) (fl1 _) rfl rfl (fl7 _ _ _ _ _ _ _) (va_recv hK hP (ci := 9) (q0 := 0) rfl (rwl (rwl (rwl (rwl (rwl (rwl o_Mn))))))) rfl hl.1 rfl (Nat.le_of_ble_eq_true rfl) dX10_road_68 ⟨Nat.zero_le _, Nat.zero_le _⟩ (fun H locs hP hD hS => ?_)
          have hP : va_P D vwCl (wMn K hMn aTp rMn2 (hSp 99) (hRd 99) (hPl 99) rMn6 rMn7 rMn8 (hJo 99) rMn10 o11.2 ++ wRd K hRd aTp (hSp 99) o4.2.1 ++ wPl K hPl gPl2 gPl3 sPl ++ wJo K hJo (hJw 99) gJo4 gJo5 sJo ++ wDw K hJw sJw ++ wAB K aTp nTp fTp ++ wRo K hSp o4.2.2) H := hP
          have hD : va_D A (wMn K hMn aTp rMn2 (hSp 99) (hRd 99) (hPl 99) rMn6 rMn7 rMn8 (hJo 99) rMn10 o11.2 ++ wRd K hRd aTp (hSp 99) o4.2.1 ++ wPl K hPl gPl2 gPl3 sPl ++ wJo K hJo (hJw 99) gJo4 gJo5 sJo ++ wDw K hJw sJw ++ wAB K aTp nTp fTp ++ wRo K hSp o4.2.2) := hD
          have e9 := Option.some.inj hf
          rw [hQ]
          exact W.iret (v := o11.1) hx hb hr (fun t ht hW => ⟨⟨o11.1, (1, o11.2, o4.2.1, sPl, sJo, sJw, o4.2.2), rfl, ⟨pr1 e9, pr2 e9⟩, ⟨by rw [ht]; exact hP, va_K.moved hW.alike hK, hD⟩⟩, hS.F ht⟩) hS.2.2 dX10_road_71
      · have hf := it_f hf c2
        exact w12 sMn sRd sPl sJo sJw sSp H locs ls hf hP hD hS (lv_sub hl [0] rfl)
  rw [hHe] at hgo
  exact hgo

def wz_X10_fault : List Cond := .code yX10_fault cX10_fault 1 (some .int) :: wsL_law
abbrev r_X10_fault : Room := { frames := 0, cells := 0, slots := 0, locals := 0 }
set_option maxHeartbeats 4000000 in
set_option maxRecDepth 100000 in
theorem c_X10_fault (l : Launch) (D : va_G) (K : Nat → ClassId) (F : Nat) (hMn : Nat → Nat) (rMn0 : Nat) (rMn2 : Nat) (rMn3 : Nat) (rMn4 : Nat) (rMn5 : Nat) (rMn6 : Nat) (rMn7 : Nat) (rMn8 : Nat) (rMn9 : Nat) (rMn10 : Nat) (sMn : MS) (res : Int32) (hf : f_X10_fault F sMn = some res) : Met l yX10_fault wz_X10_fault r_X10_fault (va_Pc [.ref (hMn 99)] (PR D K (wMn K hMn rMn0 rMn2 rMn3 rMn4 rMn5 rMn6 rMn7 rMn8 rMn9 rMn10 sMn))) (va_Qi (fun r (_ : Unit) => r = res) BN nOne) 0 0 nOne := by
  refine Met.ofW (cc := cX10_fault) (maxL := 1) (ret := (some .int)) (by decide) rfl ?_
  intro p e s m args below meth c s₁ B hml hv
  obtain ⟨hargs, hP, hK⟩ := hv
  have hx := B.exec
  have hb := B.bytes
  have hr := B.returns
  have hts := atoms_spec (ws := wz_X10_fault) B.pre
  have htl : ∀ w ∈ wsL_law, w.before args s = true := fun w h => hts w (List.mem_cons_of_mem _ h)
  have hown : s.vm.findClass RX10 = some m.cls := findClass_of_methodNamed B.named
  have hlocks := B.notSynchronized
  have hS : va_S nOne s.heap s.heap [] := va_S.rf
  have iX10 : ∀ w ∈ wsX100, w ∈ wz_X10_fault := fun w h => List.mem_cons_of_mem _ (inlX10 w h)
  suffices hgo : ∀ Q : State → Prop, Q = MQ below (va_Qi (fun r (_ : Unit) => r = res) BN nOne) args s 0 0 nOne → W p l e (headSpec wz_X10_fault r_X10_fault).room s m args below meth c s.heap [] 0 0 Q (entryFrame m args 1) from hgo _ rfl
  intro Q hQ
  have hen : entryFrame m args 1 = entryFrame m (([.ref (hMn 99)] : List Value).toArray) 1 := by rw [hargs]
  have hl := lv_entry ([.ref (hMn 99)]) (n := 1) (Nat.le_of_ble_eq_true rfl)
  rw [hen, lg_entry_eq]
  generalize (lg_sl ([.ref (hMn 99)]) ++ List.replicate (1 - (lg_sl ([.ref (hMn 99)])).length) Slot.unset).toArray = ls at hl ⊢
  have hl : lv_has ls 1 [(0, .ref (hMn 99))] := hl
  unfold f_X10_fault at hf
  obtain ⟨H, hHe⟩ : ∃ z, z = s.heap := ⟨_, rfl⟩
  obtain ⟨locs, hLe⟩ : ∃ z : List Loc, z = [] := ⟨_, rfl⟩
  rw [← hLe]
  have hS : va_S nOne s.heap H locs := by rw [hHe, hLe]; exact hS
  have hP : va_P D vwCl (wMn K hMn rMn0 rMn2 rMn3 rMn4 rMn5 rMn6 rMn7 rMn8 rMn9 rMn10 sMn) H := by rw [hHe]; exact hP
  have hgo : W p l e (headSpec wz_X10_fault r_X10_fault).room s m args below meth c H locs 0 0 Q (F0 m 0 ls []) := by
    refine lv_aload_n hx hb dX10_fault_0 rfl (lv_at hl 0 rfl) ?_
    refine va_get (D := D) (ci := 9) (v := .int (sMn.1 12)) (C := RX10) (T := TX10) (N := 14) hx hb hts iX10 hown hK hP 0 o_Mn rfl 12 (by decide) (htl _ (mB7 _ (List.mem_of_getElem? (i := 14) rfl))) (fun _ h9 => h9) rfl dX10_fault_1 ?_
    have e9 := Option.some.inj hf
    rw [hQ]
    exact W.iret (v := (sMn.1 12)) hx hb hr (fun t ht hW => ⟨⟨(sMn.1 12), (), rfl, e9, trivial⟩, hS.F ht⟩) hS.2.2 dX10_fault_4
  rw [hHe] at hgo
  exact hgo

def wz_X10_where : List Cond := .code yX10_where cX10_where 1 (some .int) :: wsL_law
abbrev r_X10_where : Room := { frames := 0, cells := 0, slots := 0, locals := 0 }
set_option maxHeartbeats 4000000 in
set_option maxRecDepth 100000 in
theorem c_X10_where (l : Launch) (D : va_G) (K : Nat → ClassId) (F : Nat) (hMn : Nat → Nat) (rMn0 : Nat) (rMn2 : Nat) (rMn3 : Nat) (rMn4 : Nat) (rMn5 : Nat) (rMn6 : Nat) (rMn7 : Nat) (rMn8 : Nat) (rMn9 : Nat) (rMn10 : Nat) (sMn : MS) (res : Int32) (hf : f_X10_where F sMn = some res) : Met l yX10_where wz_X10_where r_X10_where (va_Pc [.ref (hMn 99)] (PR D K (wMn K hMn rMn0 rMn2 rMn3 rMn4 rMn5 rMn6 rMn7 rMn8 rMn9 rMn10 sMn))) (va_Qi (fun r (_ : Unit) => r = res) BN nOne) 0 0 nOne := by
  refine Met.ofW (cc := cX10_where) (maxL := 1) (ret := (some .int)) (by decide) rfl ?_
  intro p e s m args below meth c s₁ B hml hv
  obtain ⟨hargs, hP, hK⟩ := hv
  have hx := B.exec
  have hb := B.bytes
  have hr := B.returns
  have hts := atoms_spec (ws := wz_X10_where) B.pre
  have htl : ∀ w ∈ wsL_law, w.before args s = true := fun w h => hts w (List.mem_cons_of_mem _ h)
  have hown : s.vm.findClass RX10 = some m.cls := findClass_of_methodNamed B.named
  have hlocks := B.notSynchronized
  have hS : va_S nOne s.heap s.heap [] := va_S.rf
  have iX10 : ∀ w ∈ wsX100, w ∈ wz_X10_where := fun w h => List.mem_cons_of_mem _ (inlX10 w h)
  suffices hgo : ∀ Q : State → Prop, Q = MQ below (va_Qi (fun r (_ : Unit) => r = res) BN nOne) args s 0 0 nOne → W p l e (headSpec wz_X10_where r_X10_where).room s m args below meth c s.heap [] 0 0 Q (entryFrame m args 1) from hgo _ rfl
  intro Q hQ
  have hen : entryFrame m args 1 = entryFrame m (([.ref (hMn 99)] : List Value).toArray) 1 := by rw [hargs]
  have hl := lv_entry ([.ref (hMn 99)]) (n := 1) (Nat.le_of_ble_eq_true rfl)
  rw [hen, lg_entry_eq]
  generalize (lg_sl ([.ref (hMn 99)]) ++ List.replicate (1 - (lg_sl ([.ref (hMn 99)])).length) Slot.unset).toArray = ls at hl ⊢
  have hl : lv_has ls 1 [(0, .ref (hMn 99))] := hl
  unfold f_X10_where at hf
  obtain ⟨H, hHe⟩ : ∃ z, z = s.heap := ⟨_, rfl⟩
  obtain ⟨locs, hLe⟩ : ∃ z : List Loc, z = [] := ⟨_, rfl⟩
  rw [← hLe]
  have hS : va_S nOne s.heap H locs := by rw [hHe, hLe]; exact hS
  have hP : va_P D vwCl (wMn K hMn rMn0 rMn2 rMn3 rMn4 rMn5 rMn6 rMn7 rMn8 rMn9 rMn10 sMn) H := by rw [hHe]; exact hP
  have hgo : W p l e (headSpec wz_X10_where r_X10_where).room s m args below meth c H locs 0 0 Q (F0 m 0 ls []) := by
    refine lv_aload_n hx hb dX10_where_0 rfl (lv_at hl 0 rfl) ?_
    refine va_get (D := D) (ci := 9) (v := .int (sMn.1 11)) (C := RX10) (T := TX10) (N := 14) hx hb hts iX10 hown hK hP 0 o_Mn rfl 11 (by decide) (htl _ (mB7 _ (List.mem_of_getElem? (i := 22) rfl))) (fun _ h9 => h9) rfl dX10_where_1 ?_
    refine lv_iconst (v := (4 : Int32)) hx hb dX10_where_4 (by decide) ?_
    refine lv_icmp_ne (tgt := 15) hx hb dX10_where_5 (by decide) (fun c1 => ?_) (fun c1 => ?_)
    · have hf := it_f hf c1
      refine lv_iconst (v := (-1 : Int32)) hx hb dX10_where_15 (by decide) ?_
      have e9 := Option.some.inj hf
      rw [hQ]
      exact W.iret (v := (-1 : Int32)) hx hb hr (fun t ht hW => ⟨⟨(-1 : Int32), (), rfl, e9, trivial⟩, hS.F ht⟩) hS.2.2 dX10_where_16
    · have hf := it_t hf c1
      refine lv_aload_n hx hb dX10_where_8 rfl (lv_at hl 0 rfl) ?_
      refine va_get (D := D) (ci := 9) (v := .int (sMn.1 13)) (C := RX10) (T := TX10) (N := 14) hx hb hts iX10 hown hK hP 0 o_Mn rfl 13 (by decide) (htl _ (mB7 _ (List.mem_of_getElem? (i := 16) rfl))) (fun _ h9 => h9) rfl dX10_where_9 ?_
      refine lv_goto (tgt := 16) hx hb dX10_where_12 (by decide) ?_
      have e9 := Option.some.inj hf
      rw [hQ]
      exact W.iret (v := (sMn.1 13)) hx hb hr (fun t ht hW => ⟨⟨(sMn.1 13), (), rfl, e9, trivial⟩, hS.F ht⟩) hS.2.2 dX10_where_16
  rw [hHe] at hgo
  exact hgo

theorem gcV_X9_isPlace {T0 : Cond} {own : String} {i : Nat} (h : Cond.methodLink own i yX9_isPlace ∈ wsL_law) : GoodIn (T0 :: wsL_law) (wsV own i RX9 yX9_isPlace wz_X9_isPlace) := gV h (mB24 _ (List.mem_of_getElem? (i := 18) rfl)) (mB24 _ (List.mem_of_getElem? (i := 19) rfl)) (mB1 _ (List.mem_of_getElem? (i := 17) rfl)) (mB24 _ (List.mem_of_getElem? (i := 20) rfl))
theorem hdV_X9_isPlace : yX9_isPlace.cls = RX9 ∧ yX9_isPlace.cls ≠ "java/lang/invoke/MethodHandle" ∧ yX9_isPlace.cls ≠ "java/lang/invoke/VarHandle" ∧ (parseMethodDescriptor yX9_isPlace.desc).map (fun d => d.parameters.length) = some 1 := by decide +kernel
def wz_X10_areTwoPlaces : List Cond := .code yX10_areTwoPlaces cX10_areTwoPlaces 3 (some .boolean) :: wsL_law
abbrev r_X10_areTwoPlaces : Room := { frames := 1, cells := 0, slots := 0, locals := 21 }
set_option maxHeartbeats 4000000 in
set_option maxRecDepth 100000 in
theorem c_X10_areTwoPlaces (l : Launch) (D : va_G) (K : Nat → ClassId) (F : Nat) (hMn : Nat → Nat) (rMn0 : Nat) (rMn3 : Nat) (rMn4 : Nat) (rMn5 : Nat) (rMn6 : Nat) (rMn7 : Nat) (rMn8 : Nat) (rMn9 : Nat) (rMn10 : Nat) (hRo : Nat → Nat) (sMn : MS) (sRo : MS) (p1 : Int32) (p2 : Int32) (res : Int32) (hf : f_X10_areTwoPlaces F sMn sRo p1 p2 = some res) : Met l yX10_areTwoPlaces wz_X10_areTwoPlaces r_X10_areTwoPlaces (va_Pc [.ref (hMn 99), .int p1, .int p2] (PR D K (wMn K hMn rMn0 (hRo 99) rMn3 rMn4 rMn5 rMn6 rMn7 rMn8 rMn9 rMn10 sMn ++ wRo K hRo sRo))) (va_Qi (fun r (_ : Unit) => r = res) BN nOne) 0 0 nOne := by
  refine Met.ofW (cc := cX10_areTwoPlaces) (maxL := 3) (ret := (some .boolean)) (by decide) rfl ?_
  intro p e s m args below meth c s₁ B hml hv
  obtain ⟨hargs, hP, hK⟩ := hv
  have hx := B.exec
  have hb := B.bytes
  have hr := B.returns
  have hts := atoms_spec (ws := wz_X10_areTwoPlaces) B.pre
  have htl : ∀ w ∈ wsL_law, w.before args s = true := fun w h => hts w (List.mem_cons_of_mem _ h)
  have hown : s.vm.findClass RX10 = some m.cls := findClass_of_methodNamed B.named
  have hlocks := B.notSynchronized
  have hS : va_S nOne s.heap s.heap [] := va_S.rf
  have iX10 : ∀ w ∈ wsX100, w ∈ wz_X10_areTwoPlaces := fun w h => List.mem_cons_of_mem _ (inlX10 w h)
  suffices hgo : ∀ Q : State → Prop, Q = MQ below (va_Qi (fun r (_ : Unit) => r = res) BN nOne) args s 0 0 nOne → W p l e (headSpec wz_X10_areTwoPlaces r_X10_areTwoPlaces).room s m args below meth c s.heap [] 0 0 Q (entryFrame m args 3) from hgo _ rfl
  intro Q hQ
  have hen : entryFrame m args 3 = entryFrame m (([.ref (hMn 99), .int p1, .int p2] : List Value).toArray) 3 := by rw [hargs]
  have hl := lv_entry ([.ref (hMn 99), .int p1, .int p2]) (n := 3) (Nat.le_of_ble_eq_true rfl)
  rw [hen, lg_entry_eq]
  generalize (lg_sl ([.ref (hMn 99), .int p1, .int p2]) ++ List.replicate (3 - (lg_sl ([.ref (hMn 99), .int p1, .int p2])).length) Slot.unset).toArray = ls at hl ⊢
  have hl : lv_has ls 3 [(0, .ref (hMn 99)), (1, .int p1), (2, .int p2)] := hl
  unfold f_X10_areTwoPlaces at hf
  obtain ⟨H, hHe⟩ : ∃ z, z = s.heap := ⟨_, rfl⟩
  obtain ⟨locs, hLe⟩ : ∃ z : List Loc, z = [] := ⟨_, rfl⟩
  rw [← hLe]
  have hS : va_S nOne s.heap H locs := by rw [hHe, hLe]; exact hS
  have hP : va_P D vwCl (wMn K hMn rMn0 (hRo 99) rMn3 rMn4 rMn5 rMn6 rMn7 rMn8 rMn9 rMn10 sMn ++ wRo K hRo sRo) H := by rw [hHe]; exact hP
  have hgo : W p l e (headSpec wz_X10_areTwoPlaces r_X10_areTwoPlaces).room s m args below meth c H locs 0 0 Q (F0 m 0 ls []) := by
    refine lv_aload_n hx hb dX10_areTwoPlaces_0 rfl (lv_at hl 0 rfl) ?_
    refine va_get (D := D) (ci := 9) (v := .ref (hRo 99)) (C := RX10) (T := TX10) (N := 14) hx hb hts iX10 hown hK hP 0 (rwl o_Mn) rfl 2 (by decide) (htl _ (mB1 _ (List.mem_of_getElem? (i := 18) rfl))) (fun _ h9 => h9) rfl dX10_areTwoPlaces_1 ?_
    refine lv_iload_n hx hb dX10_areTwoPlaces_4 rfl (lv_at hl 1 rfl) ?_
    obtain ⟨o1, go1, hf⟩ := bd_s hf
    refine ro_Vi (As := [.int p1]) (rest := []) ⟨hx, hb, hml, hown, hts⟩ (c_X9_isPlace l D K F hRo sRo p1 o1 go1) (cwV 1 hts (gcV_X9_isPlace (mB24 _ (List.mem_of_getElem? (i := 17) rfl))) rfl rfl rfl hdV_X9_isPlace ⟨Nat.le_of_ble_eq_true rfl, Nat.le_of_ble_eq_true rfl⟩) hK hP hS (va_PL (cs := [wMn K hMn rMn0 (hRo 99) rMn3 rMn4 rMn5 rMn6 rMn7 rMn8 rMn9 rMn10 sMn, wRo K hRo sRo]) (cc := [wRo K hRo sRo]) hP (fl2 _ _) [1] rfl (fl1 _)) (va_recv hK hP (ci := 8) (q0 := (1 + 0)) rfl (rwr ln_Mn o_Ro)) rfl hl.1 rfl (Nat.le_of_ble_eq_true rfl) dX10_areTwoPlaces_5 ⟨Nat.zero_le _, Nat.zero_le _⟩ (fun H locs hP hS => ?_)
    refine lv_if_eq (tgt := 31) hx hb dX10_areTwoPlaces_8 (by decide) (fun c2 => ?_) (fun c2 => ?_)
    · have hf := it_t hf c2
      refine lv_iconst (v := (0 : Int32)) hx hb dX10_areTwoPlaces_31 (by decide) ?_
      have e9 := Option.some.inj hf
      rw [hQ]
      exact W.zret (v := (0 : Int32)) hx hb hr rfl (fun t ht hW => ⟨⟨(0 : Int32), (), rfl, e9, trivial⟩, hS.F ht⟩) hS.2.2 dX10_areTwoPlaces_32
    · have hf := it_f hf c2
      refine lv_aload_n hx hb dX10_areTwoPlaces_11 rfl (lv_at hl 0 rfl) ?_
      refine va_get (D := D) (ci := 9) (v := .ref (hRo 99)) (C := RX10) (T := TX10) (N := 14) hx hb hts iX10 hown hK hP 0 (rwl o_Mn) rfl 2 (by decide) (htl _ (mB1 _ (List.mem_of_getElem? (i := 18) rfl))) (fun _ h9 => h9) rfl dX10_areTwoPlaces_12 ?_
      refine lv_iload_n hx hb dX10_areTwoPlaces_15 rfl (lv_at hl 2 rfl) ?_
      obtain ⟨o3, go3, hf⟩ := bd_s hf
      refine ro_Vi (As := [.int p2]) (rest := []) ⟨hx, hb, hml, hown, hts⟩ (c_X9_isPlace l D K F hRo sRo p2 o3 go3) (cwV 1 hts (gcV_X9_isPlace (mB24 _ (List.mem_of_getElem? (i := 17) rfl))) rfl rfl rfl hdV_X9_isPlace ⟨Nat.le_of_ble_eq_true rfl, Nat.le_of_ble_eq_true rfl⟩) hK hP hS (va_PL (cs := [wMn K hMn rMn0 (hRo 99) rMn3 rMn4 rMn5 rMn6 rMn7 rMn8 rMn9 rMn10 sMn, wRo K hRo sRo]) (cc := [wRo K hRo sRo]) hP (fl2 _ _) [1] rfl (fl1 _)) (va_recv hK hP (ci := 8) (q0 := (1 + 0)) rfl (rwr ln_Mn o_Ro)) rfl hl.1 rfl (Nat.le_of_ble_eq_true rfl) dX10_areTwoPlaces_16 ⟨Nat.zero_le _, Nat.zero_le _⟩ (fun H locs hP hS => ?_)
      refine lv_if_eq (tgt := 31) hx hb dX10_areTwoPlaces_19 (by decide) (fun c4 => ?_) (fun c4 => ?_)
      · have hf := it_t hf c4
        refine lv_iconst (v := (0 : Int32)) hx hb dX10_areTwoPlaces_31 (by decide) ?_
        have e9 := Option.some.inj hf
        rw [hQ]
        exact W.zret (v := (0 : Int32)) hx hb hr rfl (fun t ht hW => ⟨⟨(0 : Int32), (), rfl, e9, trivial⟩, hS.F ht⟩) hS.2.2 dX10_areTwoPlaces_32
      · have hf := it_f hf c4
        refine lv_iload_n hx hb dX10_areTwoPlaces_22 rfl (lv_at hl 1 rfl) ?_
        refine lv_iload_n hx hb dX10_areTwoPlaces_23 rfl (lv_at hl 2 rfl) ?_
        refine lv_icmp_eq (tgt := 31) hx hb dX10_areTwoPlaces_24 (by decide) (fun c5 => ?_) (fun c5 => ?_)
        · have hf := it_t hf c5
          refine lv_iconst (v := (0 : Int32)) hx hb dX10_areTwoPlaces_31 (by decide) ?_
          have e9 := Option.some.inj hf
          rw [hQ]
          exact W.zret (v := (0 : Int32)) hx hb hr rfl (fun t ht hW => ⟨⟨(0 : Int32), (), rfl, e9, trivial⟩, hS.F ht⟩) hS.2.2 dX10_areTwoPlaces_32
        · have hf := it_f hf c5
          refine lv_iconst (v := (1 : Int32)) hx hb dX10_areTwoPlaces_27 (by decide) ?_
          refine lv_goto (tgt := 32) hx hb dX10_areTwoPlaces_28 (by decide) ?_
          have e9 := Option.some.inj hf
          rw [hQ]
          exact W.zret (v := (1 : Int32)) hx hb hr rfl (fun t ht hW => ⟨⟨(1 : Int32), (), rfl, e9, trivial⟩, hS.F ht⟩) hS.2.2 dX10_areTwoPlaces_32
  rw [hHe] at hgo
  exact hgo

theorem gcV_X10_areTwoPlaces {T0 : Cond} {own : String} {i : Nat} (h : Cond.methodLink own i yX10_areTwoPlaces ∈ wsL_law) : GoodIn (T0 :: wsL_law) (wsV own i RX10 yX10_areTwoPlaces wz_X10_areTwoPlaces) := gV h (mB24 _ (List.mem_of_getElem? (i := 14) rfl)) (mB24 _ (List.mem_of_getElem? (i := 15) rfl)) (mB1 _ (List.mem_of_getElem? (i := 2) rfl)) (mB24 _ (List.mem_of_getElem? (i := 16) rfl))
theorem hdV_X10_areTwoPlaces : yX10_areTwoPlaces.cls = RX10 ∧ yX10_areTwoPlaces.cls ≠ "java/lang/invoke/MethodHandle" ∧ yX10_areTwoPlaces.cls ≠ "java/lang/invoke/VarHandle" ∧ (parseMethodDescriptor yX10_areTwoPlaces.desc).map (fun d => d.parameters.length) = some 2 := by decide +kernel
def wz_X10_takes : List Cond := .code yX10_takes cX10_takes 4 (some .int) :: wsL_law
abbrev r_X10_takes : Room := { frames := 2, cells := 0, slots := 0, locals := 44 }
set_option maxHeartbeats 4000000 in
set_option maxRecDepth 100000 in
theorem c_X10_takes (l : Launch) (D : va_G) (K : Nat → ClassId) (F : Nat) (hMn : Nat → Nat) (rMn0 : Nat) (rMn3 : Nat) (rMn4 : Nat) (rMn5 : Nat) (rMn6 : Nat) (rMn7 : Nat) (rMn8 : Nat) (rMn9 : Nat) (rMn10 : Nat) (hRo : Nat → Nat) (sz : Nat) (sMn : MS) (sRo : MS) (p1 : Int32) (p2 : Int32) (p3 : Int32) (res : Int32 × MS) (hf : f_X10_takes F sRo p1 p2 p3 sMn = some res) : Met l yX10_takes wz_X10_takes r_X10_takes (va_Pc [.ref (hMn 99), .int p1, .int p2, .int p3] (PW D K (wMn K hMn rMn0 (hRo 99) rMn3 rMn4 rMn5 rMn6 rMn7 rMn8 rMn9 rMn10 sMn ++ wRo K hRo sRo) sz)) (va_Qi (fun r u => r = res.1 ∧ u = res.2) (fun u t => BW D K (va_A (wMn K hMn rMn0 (hRo 99) rMn3 rMn4 rMn5 rMn6 rMn7 rMn8 rMn9 rMn10 sMn ++ wRo K hRo sRo) sz) (wMn K hMn rMn0 (hRo 99) rMn3 rMn4 rMn5 rMn6 rMn7 rMn8 rMn9 rMn10 u ++ wRo K hRo sRo) t) (va_A (wMn K hMn rMn0 (hRo 99) rMn3 rMn4 rMn5 rMn6 rMn7 rMn8 rMn9 rMn10 sMn ++ wRo K hRo sRo) sz)) 0 0 (va_A (wMn K hMn rMn0 (hRo 99) rMn3 rMn4 rMn5 rMn6 rMn7 rMn8 rMn9 rMn10 sMn ++ wRo K hRo sRo) sz) := by
  refine Met.ofW (cc := cX10_takes) (maxL := 4) (ret := (some .int)) (by decide) rfl ?_
  intro p e s m args below meth c s₁ B hml hv
  obtain ⟨hargs, hsz, hP, hK, hD0⟩ := hv
  have hx := B.exec
  have hb := B.bytes
  have hr := B.returns
  have hts := atoms_spec (ws := wz_X10_takes) B.pre
  have htl : ∀ w ∈ wsL_law, w.before args s = true := fun w h => hts w (List.mem_cons_of_mem _ h)
  have hown : s.vm.findClass RX10 = some m.cls := findClass_of_methodNamed B.named
  have hlocks := B.notSynchronized
  subst hsz
  have hD := hD0.self (sz := s.heap.size)
  generalize hAe : va_A (wMn K hMn rMn0 (hRo 99) rMn3 rMn4 rMn5 rMn6 rMn7 rMn8 rMn9 rMn10 sMn ++ wRo K hRo sRo) s.heap.size = A at hD ⊢
  have hA : ∀ q : Nat, s.heap.size ≤ q → A q := fun q h => by rw [← hAe]; exact Or.inr h
  have hS : va_S A s.heap s.heap [] := va_S.rf
  have iX10 : ∀ w ∈ wsX100, w ∈ wz_X10_takes := fun w h => List.mem_cons_of_mem _ (inlX10 w h)
  suffices hgo : ∀ Q : State → Prop, Q = MQ below (va_Qi (fun r u => r = res.1 ∧ u = res.2) (fun u t => BW D K A (wMn K hMn rMn0 (hRo 99) rMn3 rMn4 rMn5 rMn6 rMn7 rMn8 rMn9 rMn10 u ++ wRo K hRo sRo) t) A) args s 0 0 A → W p l e (headSpec wz_X10_takes r_X10_takes).room s m args below meth c s.heap [] 0 0 Q (entryFrame m args 4) from hgo _ rfl
  intro Q hQ
  have w60 : ∀ (y1 : Int32), ∀ (sMn : MS), ∀ (H : Heap) (locs : List Loc) (ls : Array Slot), f_X10_takes_60 F sRo p1 p2 p3 y1 sMn = some res → va_P D vwCl (wMn K hMn rMn0 (hRo 99) rMn3 rMn4 rMn5 rMn6 rMn7 rMn8 rMn9 rMn10 sMn ++ wRo K hRo sRo) H → va_D A (wMn K hMn rMn0 (hRo 99) rMn3 rMn4 rMn5 rMn6 rMn7 rMn8 rMn9 rMn10 sMn ++ wRo K hRo sRo) → va_S A s.heap H locs → lv_has ls 4 [] → W p l e (headSpec wz_X10_takes r_X10_takes).room s m args below meth c H locs 0 0 Q (F0 m 60 ls [.int y1, .ref (hMn 99)]) := by
    intro y1 sMn H locs ls hf hP hD hS hl
    unfold f_X10_takes_60 at hf
    obtain ⟨o10, go10, hf⟩ := bd_s hf
    refine rk_Vi (wn := wMn K hMn rMn0 (hRo 99) rMn3 rMn4 rMn5 rMn6 rMn7 rMn8 rMn9 rMn10 o10.2 ++ wRo K hRo sRo) [wMn K hMn rMn0 (hRo 99) rMn3 rMn4 rMn5 rMn6 rMn7 rMn8 rMn9 rMn10 sMn, wRo K hRo sRo] [wMn K hMn rMn0 (hRo 99) rMn3 rMn4 rMn5 rMn6 rMn7 rMn8 rMn9 rMn10 sMn] [wMn K hMn rMn0 (hRo 99) rMn3 rMn4 rMn5 rMn6 rMn7 rMn8 rMn9 rMn10 o10.2] [wMn K hMn rMn0 (hRo 99) rMn3 rMn4 rMn5 rMn6 rMn7 rMn8 rMn9 rMn10 o10.2, wRo K hRo sRo] (As := [.int y1]) (rest := []) ⟨hx, hb, hml, hown, hts⟩ (c_X10_accept l D K F hMn rMn0 (hRo 99) rMn3 rMn4 rMn5 rMn6 rMn7 rMn8 rMn9 rMn10 H.size sMn y1 o10 go10) (cwV 1 hts (gcV_X10_accept (mB17 _ (List.mem_of_getElem? (i := 14) rfl))) rfl rfl rfl hdV_X10_accept ⟨Nat.le_of_ble_eq_true rfl, Nat.le_of_ble_eq_true rfl⟩) hK hP hD hS hA [0] (fl2 _ _) rfl (by decide) (fl1 _) (fl1 _) rfl rfl (fl2 _ _) (va_recv hK hP (ci := 9) (q0 := 0) rfl (rwl o_Mn)) rfl hl.1 rfl (Nat.le_of_ble_eq_true rfl) dX10_takes_60 ⟨Nat.zero_le _, Nat.zero_le _⟩ (fun H locs hP hD hS => ?_)
    have hP : va_P D vwCl (wMn K hMn rMn0 (hRo 99) rMn3 rMn4 rMn5 rMn6 rMn7 rMn8 rMn9 rMn10 o10.2 ++ wRo K hRo sRo) H := hP
    have hD : va_D A (wMn K hMn rMn0 (hRo 99) rMn3 rMn4 rMn5 rMn6 rMn7 rMn8 rMn9 rMn10 o10.2 ++ wRo K hRo sRo) := hD
    have e9 := Option.some.inj hf
    rw [hQ]
    exact W.iret (v := o10.1) hx hb hr (fun t ht hW => ⟨⟨o10.1, o10.2, rfl, ⟨pr1 e9, pr2 e9⟩, ⟨by rw [ht]; exact hP, va_K.moved hW.alike hK, hD⟩⟩, hS.F ht⟩) hS.2.2 dX10_takes_63
  have hen : entryFrame m args 4 = entryFrame m (([.ref (hMn 99), .int p1, .int p2, .int p3] : List Value).toArray) 4 := by rw [hargs]
  have hl := lv_entry ([.ref (hMn 99), .int p1, .int p2, .int p3]) (n := 4) (Nat.le_of_ble_eq_true rfl)
  rw [hen, lg_entry_eq]
  generalize (lg_sl ([.ref (hMn 99), .int p1, .int p2, .int p3]) ++ List.replicate (4 - (lg_sl ([.ref (hMn 99), .int p1, .int p2, .int p3])).length) Slot.unset).toArray = ls at hl ⊢
  have hl : lv_has ls 4 [(0, .ref (hMn 99)), (1, .int p1), (2, .int p2), (3, .int p3)] := hl
  unfold f_X10_takes at hf
  obtain ⟨H, hHe⟩ : ∃ z, z = s.heap := ⟨_, rfl⟩
  obtain ⟨locs, hLe⟩ : ∃ z : List Loc, z = [] := ⟨_, rfl⟩
  rw [← hLe]
  have hS : va_S A s.heap H locs := by rw [hHe, hLe]; exact hS
  have hP : va_P D vwCl (wMn K hMn rMn0 (hRo 99) rMn3 rMn4 rMn5 rMn6 rMn7 rMn8 rMn9 rMn10 sMn ++ wRo K hRo sRo) H := by rw [hHe]; exact hP
  have hgo : W p l e (headSpec wz_X10_takes r_X10_takes).room s m args below meth c H locs 0 0 Q (F0 m 0 ls []) := by
    refine lv_aload_n hx hb dX10_takes_0 rfl (lv_at hl 0 rfl) ?_
    refine lv_iload_n hx hb dX10_takes_1 rfl (lv_at hl 1 rfl) ?_
    refine lv_iload_n hx hb dX10_takes_2 rfl (lv_at hl 2 rfl) ?_
    obtain ⟨o1, go1, hf⟩ := bd_s hf
    refine ro_Vi (As := [.int p1, .int p2]) (rest := []) ⟨hx, hb, hml, hown, hts⟩ (c_X10_areTwoPlaces l D K F hMn rMn0 rMn3 rMn4 rMn5 rMn6 rMn7 rMn8 rMn9 rMn10 hRo sMn sRo p1 p2 o1 go1) (cwV 2 hts (gcV_X10_areTwoPlaces (mB24 _ (List.mem_of_getElem? (i := 13) rfl))) rfl rfl rfl hdV_X10_areTwoPlaces ⟨Nat.le_of_ble_eq_true rfl, Nat.le_of_ble_eq_true rfl⟩) hK hP hS hP (va_recv hK hP (ci := 9) (q0 := 0) rfl (rwl o_Mn)) rfl hl.1 rfl (Nat.le_of_ble_eq_true rfl) dX10_takes_3 ⟨Nat.zero_le _, Nat.zero_le _⟩ (fun H locs hP hS => ?_)
    refine lv_if_ne (tgt := 15) hx hb dX10_takes_6 (by decide) (fun c2 => ?_) (fun c2 => ?_)
    · have hf := it_f hf c2
      refine lv_aload_n hx hb dX10_takes_15 rfl (lv_at hl 0 rfl) ?_
      refine va_get (D := D) (ci := 9) (v := .ref (hRo 99)) (C := RX10) (T := TX10) (N := 14) hx hb hts iX10 hown hK hP 0 (rwl o_Mn) rfl 2 (by decide) (htl _ (mB1 _ (List.mem_of_getElem? (i := 18) rfl))) (fun _ h9 => h9) rfl dX10_takes_16 ?_
      refine lv_iload_n hx hb dX10_takes_19 rfl (lv_at hl 1 rfl) ?_
      refine lv_iload_n hx hb dX10_takes_20 rfl (lv_at hl 2 rfl) ?_
      obtain ⟨o3, go3, hf⟩ := bd_s hf
      refine ro_Vi (As := [.int p1, .int p2]) (rest := []) ⟨hx, hb, hml, hown, hts⟩ (c_X9_isRoad l D K F hRo sRo p1 p2 o3 go3) (cwV 2 hts (gcV_X9_isRoad (mB24 _ (List.mem_of_getElem? (i := 21) rfl))) rfl rfl rfl hdV_X9_isRoad ⟨Nat.le_of_ble_eq_true rfl, Nat.le_of_ble_eq_true rfl⟩) hK hP hS (va_PL (cs := [wMn K hMn rMn0 (hRo 99) rMn3 rMn4 rMn5 rMn6 rMn7 rMn8 rMn9 rMn10 sMn, wRo K hRo sRo]) (cc := [wRo K hRo sRo]) hP (fl2 _ _) [1] rfl (fl1 _)) (va_recv hK hP (ci := 8) (q0 := (1 + 0)) rfl (rwr ln_Mn o_Ro)) rfl hl.1 rfl (Nat.le_of_ble_eq_true rfl) dX10_takes_21 ⟨Nat.zero_le _, Nat.zero_le _⟩ (fun H locs hP hS => ?_)
      refine lv_if_ne (tgt := 34) hx hb dX10_takes_24 (by decide) (fun c4 => ?_) (fun c4 => ?_)
      · have hf := it_f hf c4
        refine lv_aload_n hx hb dX10_takes_34 rfl (lv_at hl 0 rfl) ?_
        refine lv_iload_n hx hb dX10_takes_35 rfl (lv_at hl 3 rfl) ?_
        refine lv_if_eq (tgt := 51) hx hb dX10_takes_36 (by decide) (fun c5 => ?_) (fun c5 => ?_)
        · have hf := it_t hf c5
          refine lv_aload_n hx hb dX10_takes_51 rfl (lv_at hl 0 rfl) ?_
          refine va_get (D := D) (ci := 9) (v := .ref (hRo 99)) (C := RX10) (T := TX10) (N := 14) hx hb hts iX10 hown hK hP 0 (rwl o_Mn) rfl 2 (by decide) (htl _ (mB1 _ (List.mem_of_getElem? (i := 18) rfl))) (fun _ h9 => h9) rfl dX10_takes_52 ?_
          refine lv_iload_n hx hb dX10_takes_55 rfl (lv_at hl 1 rfl) ?_
          refine lv_iload_n hx hb dX10_takes_56 rfl (lv_at hl 2 rfl) ?_
          obtain ⟨o6, go6, hf⟩ := bd_s hf
          refine ro_Vi (As := [.int p1, .int p2]) (rest := [.ref (hMn 99)]) ⟨hx, hb, hml, hown, hts⟩ (c_X9_pintsOf l D K F hRo sRo p1 p2 o6 go6) (cwV 2 hts (gcV_X9_pintsOf (mB25 _ (List.mem_of_getElem? (i := 2) rfl))) rfl rfl rfl hdV_X9_pintsOf ⟨Nat.le_of_ble_eq_true rfl, Nat.le_of_ble_eq_true rfl⟩) hK hP hS (va_PL (cs := [wMn K hMn rMn0 (hRo 99) rMn3 rMn4 rMn5 rMn6 rMn7 rMn8 rMn9 rMn10 sMn, wRo K hRo sRo]) (cc := [wRo K hRo sRo]) hP (fl2 _ _) [1] rfl (fl1 _)) (va_recv hK hP (ci := 8) (q0 := (1 + 0)) rfl (rwr ln_Mn o_Ro)) rfl hl.1 rfl (Nat.le_of_ble_eq_true rfl) dX10_takes_57 ⟨Nat.zero_le _, Nat.zero_le _⟩ (fun H locs hP hS => ?_)
          exact w60 o6 sMn H locs ls hf hP hD hS (lv_sub hl [] rfl)
        · have hf := it_f hf c5
          refine lv_aload_n hx hb dX10_takes_39 rfl (lv_at hl 0 rfl) ?_
          refine va_get (D := D) (ci := 9) (v := .ref (hRo 99)) (C := RX10) (T := TX10) (N := 14) hx hb hts iX10 hown hK hP 0 (rwl o_Mn) rfl 2 (by decide) (htl _ (mB1 _ (List.mem_of_getElem? (i := 18) rfl))) (fun _ h9 => h9) rfl dX10_takes_40 ?_
          refine lv_iload_n hx hb dX10_takes_43 rfl (lv_at hl 1 rfl) ?_
          refine lv_iload_n hx hb dX10_takes_44 rfl (lv_at hl 2 rfl) ?_
          obtain ⟨o7, go7, hf⟩ := bd_s hf
          refine ro_Vi (As := [.int p1, .int p2]) (rest := [.ref (hMn 99)]) ⟨hx, hb, hml, hown, hts⟩ (c_X9_minutesOf l D K F hRo sRo p1 p2 o7 go7) (cwV 2 hts (gcV_X9_minutesOf (mB24 _ (List.mem_of_getElem? (i := 22) rfl))) rfl rfl rfl hdV_X9_minutesOf ⟨Nat.le_of_ble_eq_true rfl, Nat.le_of_ble_eq_true rfl⟩) hK hP hS (va_PL (cs := [wMn K hMn rMn0 (hRo 99) rMn3 rMn4 rMn5 rMn6 rMn7 rMn8 rMn9 rMn10 sMn, wRo K hRo sRo]) (cc := [wRo K hRo sRo]) hP (fl2 _ _) [1] rfl (fl1 _)) (va_recv hK hP (ci := 8) (q0 := (1 + 0)) rfl (rwr ln_Mn o_Ro)) rfl hl.1 rfl (Nat.le_of_ble_eq_true rfl) dX10_takes_45 ⟨Nat.zero_le _, Nat.zero_le _⟩ (fun H locs hP hS => ?_)
          refine lv_goto (tgt := 60) hx hb dX10_takes_48 (by decide) ?_
          exact w60 o7 sMn H locs ls hf hP hD hS (lv_sub hl [] rfl)
      · have hf := it_t hf c4
        refine lv_aload_n hx hb dX10_takes_27 rfl (lv_at hl 0 rfl) ?_
        refine lv_bipush (v := (-2 : Int32)) hx hb dX10_takes_28 (by decide) ?_
        obtain ⟨o8, go8, hf⟩ := bd_s hf
        refine rk_Vi (wn := wMn K hMn rMn0 (hRo 99) rMn3 rMn4 rMn5 rMn6 rMn7 rMn8 rMn9 rMn10 o8.2 ++ wRo K hRo sRo) [wMn K hMn rMn0 (hRo 99) rMn3 rMn4 rMn5 rMn6 rMn7 rMn8 rMn9 rMn10 sMn, wRo K hRo sRo] [wMn K hMn rMn0 (hRo 99) rMn3 rMn4 rMn5 rMn6 rMn7 rMn8 rMn9 rMn10 sMn] [wMn K hMn rMn0 (hRo 99) rMn3 rMn4 rMn5 rMn6 rMn7 rMn8 rMn9 rMn10 o8.2] [wMn K hMn rMn0 (hRo 99) rMn3 rMn4 rMn5 rMn6 rMn7 rMn8 rMn9 rMn10 o8.2, wRo K hRo sRo] (As := [.int (-2 : Int32)]) (rest := []) ⟨hx, hb, hml, hown, hts⟩ (c_X10_accept l D K F hMn rMn0 (hRo 99) rMn3 rMn4 rMn5 rMn6 rMn7 rMn8 rMn9 rMn10 H.size sMn (-2 : Int32) o8 go8) (cwV 1 hts (gcV_X10_accept (mB17 _ (List.mem_of_getElem? (i := 14) rfl))) rfl rfl rfl hdV_X10_accept ⟨Nat.le_of_ble_eq_true rfl, Nat.le_of_ble_eq_true rfl⟩) hK hP hD hS hA [0] (fl2 _ _) rfl (by decide) (fl1 _) (fl1 _) rfl rfl (fl2 _ _) (va_recv hK hP (ci := 9) (q0 := 0) rfl (rwl o_Mn)) rfl hl.1 rfl (Nat.le_of_ble_eq_true rfl) dX10_takes_30 ⟨Nat.zero_le _, Nat.zero_le _⟩ (fun H locs hP hD hS => ?_)
        have hP : va_P D vwCl (wMn K hMn rMn0 (hRo 99) rMn3 rMn4 rMn5 rMn6 rMn7 rMn8 rMn9 rMn10 o8.2 ++ wRo K hRo sRo) H := hP
        have hD : va_D A (wMn K hMn rMn0 (hRo 99) rMn3 rMn4 rMn5 rMn6 rMn7 rMn8 rMn9 rMn10 o8.2 ++ wRo K hRo sRo) := hD
        have e9 := Option.some.inj hf
        rw [hQ]
        exact W.iret (v := o8.1) hx hb hr (fun t ht hW => ⟨⟨o8.1, o8.2, rfl, ⟨pr1 e9, pr2 e9⟩, ⟨by rw [ht]; exact hP, va_K.moved hW.alike hK, hD⟩⟩, hS.F ht⟩) hS.2.2 dX10_takes_33
    · have hf := it_t hf c2
      refine lv_aload_n hx hb dX10_takes_9 rfl (lv_at hl 0 rfl) ?_
      refine lv_iconst (v := (1 : Int32)) hx hb dX10_takes_10 (by decide) ?_
      obtain ⟨o9, go9, hf⟩ := bd_s hf
      refine rk_Vi (wn := wMn K hMn rMn0 (hRo 99) rMn3 rMn4 rMn5 rMn6 rMn7 rMn8 rMn9 rMn10 o9.2 ++ wRo K hRo sRo) [wMn K hMn rMn0 (hRo 99) rMn3 rMn4 rMn5 rMn6 rMn7 rMn8 rMn9 rMn10 sMn, wRo K hRo sRo] [wMn K hMn rMn0 (hRo 99) rMn3 rMn4 rMn5 rMn6 rMn7 rMn8 rMn9 rMn10 sMn] [wMn K hMn rMn0 (hRo 99) rMn3 rMn4 rMn5 rMn6 rMn7 rMn8 rMn9 rMn10 o9.2] [wMn K hMn rMn0 (hRo 99) rMn3 rMn4 rMn5 rMn6 rMn7 rMn8 rMn9 rMn10 o9.2, wRo K hRo sRo] (As := [.int (1 : Int32)]) (rest := []) ⟨hx, hb, hml, hown, hts⟩ (c_X10_refuse l D K F hMn rMn0 (hRo 99) rMn3 rMn4 rMn5 rMn6 rMn7 rMn8 rMn9 rMn10 H.size sMn (1 : Int32) o9 go9) (cwV 1 hts (gcV_X10_refuse (mB7 _ (List.mem_of_getElem? (i := 18) rfl))) rfl rfl rfl hdV_X10_refuse ⟨Nat.le_of_ble_eq_true rfl, Nat.le_of_ble_eq_true rfl⟩) hK hP hD hS hA [0] (fl2 _ _) rfl (by decide) (fl1 _) (fl1 _) rfl rfl (fl2 _ _) (va_recv hK hP (ci := 9) (q0 := 0) rfl (rwl o_Mn)) rfl hl.1 rfl (Nat.le_of_ble_eq_true rfl) dX10_takes_11 ⟨Nat.zero_le _, Nat.zero_le _⟩ (fun H locs hP hD hS => ?_)
      have hP : va_P D vwCl (wMn K hMn rMn0 (hRo 99) rMn3 rMn4 rMn5 rMn6 rMn7 rMn8 rMn9 rMn10 o9.2 ++ wRo K hRo sRo) H := hP
      have hD : va_D A (wMn K hMn rMn0 (hRo 99) rMn3 rMn4 rMn5 rMn6 rMn7 rMn8 rMn9 rMn10 o9.2 ++ wRo K hRo sRo) := hD
      have e9 := Option.some.inj hf
      rw [hQ]
      exact W.iret (v := o9.1) hx hb hr (fun t ht hW => ⟨⟨o9.1, o9.2, rfl, ⟨pr1 e9, pr2 e9⟩, ⟨by rw [ht]; exact hP, va_K.moved hW.alike hK, hD⟩⟩, hS.F ht⟩) hS.2.2 dX10_takes_14
  rw [hHe] at hgo
  exact hgo

def wz_X10_pump : List Cond := .code yX10_pump cX10_pump 5 (some .int) :: wsL_law
abbrev r_X10_pump : Room := { frames := 1, cells := 0, slots := 0, locals := 21 }
set_option maxHeartbeats 4000000 in
set_option maxRecDepth 100000 in
theorem c_X10_pump (l : Launch) (D : va_G) (K : Nat → ClassId) (F : Nat) (hMn : Nat → Nat) (rMn0 : Nat) (rMn3 : Nat) (rMn4 : Nat) (rMn5 : Nat) (rMn6 : Nat) (rMn7 : Nat) (rMn8 : Nat) (rMn9 : Nat) (rMn10 : Nat) (hRo : Nat → Nat) (sz : Nat) (sMn : MS) (sRo : MS) (p1 : Int32) (p2 : Int32) (res : Int32 × MS) (hf : f_X10_pump F sRo p1 p2 sMn = some res) : Met l yX10_pump wz_X10_pump r_X10_pump (va_Pc [.ref (hMn 99), .int p1, .int p2] (PW D K (wMn K hMn rMn0 (hRo 99) rMn3 rMn4 rMn5 rMn6 rMn7 rMn8 rMn9 rMn10 sMn ++ wRo K hRo sRo) sz)) (va_Qi (fun r u => r = res.1 ∧ u = res.2) (fun u t => BW D K (va_A (wMn K hMn rMn0 (hRo 99) rMn3 rMn4 rMn5 rMn6 rMn7 rMn8 rMn9 rMn10 sMn ++ wRo K hRo sRo) sz) (wMn K hMn rMn0 (hRo 99) rMn3 rMn4 rMn5 rMn6 rMn7 rMn8 rMn9 rMn10 u ++ wRo K hRo sRo) t) (va_A (wMn K hMn rMn0 (hRo 99) rMn3 rMn4 rMn5 rMn6 rMn7 rMn8 rMn9 rMn10 sMn ++ wRo K hRo sRo) sz)) 0 0 (va_A (wMn K hMn rMn0 (hRo 99) rMn3 rMn4 rMn5 rMn6 rMn7 rMn8 rMn9 rMn10 sMn ++ wRo K hRo sRo) sz) := by
  refine Met.ofW (cc := cX10_pump) (maxL := 5) (ret := (some .int)) (by decide) rfl ?_
  intro p e s m args below meth c s₁ B hml hv
  obtain ⟨hargs, hsz, hP, hK, hD0⟩ := hv
  have hx := B.exec
  have hb := B.bytes
  have hr := B.returns
  have hts := atoms_spec (ws := wz_X10_pump) B.pre
  have htl : ∀ w ∈ wsL_law, w.before args s = true := fun w h => hts w (List.mem_cons_of_mem _ h)
  have hown : s.vm.findClass RX10 = some m.cls := findClass_of_methodNamed B.named
  have hlocks := B.notSynchronized
  subst hsz
  have hD := hD0.self (sz := s.heap.size)
  generalize hAe : va_A (wMn K hMn rMn0 (hRo 99) rMn3 rMn4 rMn5 rMn6 rMn7 rMn8 rMn9 rMn10 sMn ++ wRo K hRo sRo) s.heap.size = A at hD ⊢
  have hA : ∀ q : Nat, s.heap.size ≤ q → A q := fun q h => by rw [← hAe]; exact Or.inr h
  have hS : va_S A s.heap s.heap [] := va_S.rf
  have iX10 : ∀ w ∈ wsX100, w ∈ wz_X10_pump := fun w h => List.mem_cons_of_mem _ (inlX10 w h)
  have iX9 : ∀ w ∈ wsX90, w ∈ wz_X10_pump := fun w h => List.mem_cons_of_mem _ (inlX9 w h)
  suffices hgo : ∀ Q : State → Prop, Q = MQ below (va_Qi (fun r u => r = res.1 ∧ u = res.2) (fun u t => BW D K A (wMn K hMn rMn0 (hRo 99) rMn3 rMn4 rMn5 rMn6 rMn7 rMn8 rMn9 rMn10 u ++ wRo K hRo sRo) t) A) args s 0 0 A → W p l e (headSpec wz_X10_pump r_X10_pump).room s m args below meth c s.heap [] 0 0 Q (entryFrame m args 5) from hgo _ rfl
  intro Q hQ
  have w20 : ∀ (sMn : MS), ∀ (H : Heap) (locs : List Loc) (ls : Array Slot), f_X10_pump_20 F sRo p1 p2 sMn = some res → va_P D vwCl (wMn K hMn rMn0 (hRo 99) rMn3 rMn4 rMn5 rMn6 rMn7 rMn8 rMn9 rMn10 sMn ++ wRo K hRo sRo) H → va_D A (wMn K hMn rMn0 (hRo 99) rMn3 rMn4 rMn5 rMn6 rMn7 rMn8 rMn9 rMn10 sMn ++ wRo K hRo sRo) → va_S A s.heap H locs → lv_has ls 5 [(0, .ref (hMn 99))] → W p l e (headSpec wz_X10_pump r_X10_pump).room s m args below meth c H locs 0 0 Q (F0 m 20 ls []) := by
    intro sMn H locs ls hf hP hD hS hl
    unfold f_X10_pump_20 at hf
    refine lv_aload_n hx hb dX10_pump_20 rfl (lv_at hl 0 rfl) ?_
    refine lv_iconst (v := (1 : Int32)) hx hb dX10_pump_21 (by decide) ?_
    obtain ⟨o19, go19, hf⟩ := bd_s hf
    refine rk_Vi (wn := wMn K hMn rMn0 (hRo 99) rMn3 rMn4 rMn5 rMn6 rMn7 rMn8 rMn9 rMn10 o19.2 ++ wRo K hRo sRo) [wMn K hMn rMn0 (hRo 99) rMn3 rMn4 rMn5 rMn6 rMn7 rMn8 rMn9 rMn10 sMn, wRo K hRo sRo] [wMn K hMn rMn0 (hRo 99) rMn3 rMn4 rMn5 rMn6 rMn7 rMn8 rMn9 rMn10 sMn] [wMn K hMn rMn0 (hRo 99) rMn3 rMn4 rMn5 rMn6 rMn7 rMn8 rMn9 rMn10 o19.2] [wMn K hMn rMn0 (hRo 99) rMn3 rMn4 rMn5 rMn6 rMn7 rMn8 rMn9 rMn10 o19.2, wRo K hRo sRo] (As := [.int (1 : Int32)]) (rest := []) ⟨hx, hb, hml, hown, hts⟩ (c_X10_refuse l D K F hMn rMn0 (hRo 99) rMn3 rMn4 rMn5 rMn6 rMn7 rMn8 rMn9 rMn10 H.size sMn (1 : Int32) o19 go19) (cwV 1 hts (gcV_X10_refuse (mB7 _ (List.mem_of_getElem? (i := 18) rfl))) rfl rfl rfl hdV_X10_refuse ⟨Nat.le_of_ble_eq_true rfl, Nat.le_of_ble_eq_true rfl⟩) hK hP hD hS hA [0] (fl2 _ _) rfl (by decide) (fl1 _) (fl1 _) rfl rfl (fl2 _ _) (va_recv hK hP (ci := 9) (q0 := 0) rfl (rwl o_Mn)) rfl hl.1 rfl (Nat.le_of_ble_eq_true rfl) dX10_pump_22 ⟨Nat.zero_le _, Nat.zero_le _⟩ (fun H locs hP hD hS => ?_)
    have hP : va_P D vwCl (wMn K hMn rMn0 (hRo 99) rMn3 rMn4 rMn5 rMn6 rMn7 rMn8 rMn9 rMn10 o19.2 ++ wRo K hRo sRo) H := hP
    have hD : va_D A (wMn K hMn rMn0 (hRo 99) rMn3 rMn4 rMn5 rMn6 rMn7 rMn8 rMn9 rMn10 o19.2 ++ wRo K hRo sRo) := hD
    have e9 := Option.some.inj hf
    rw [hQ]
    exact W.iret (v := o19.1) hx hb hr (fun t ht hW => ⟨⟨o19.1, o19.2, rfl, ⟨pr1 e9, pr2 e9⟩, ⟨by rw [ht]; exact hP, va_K.moved hW.alike hK, hD⟩⟩, hS.F ht⟩) hS.2.2 dX10_pump_25
  have w100 : ∀ (y1 : Int32), ∀ (sMn : MS), ∀ (H : Heap) (locs : List Loc) (ls : Array Slot), f_X10_pump_100 F sRo p1 p2 y1 sMn = some res → va_P D vwCl (wMn K hMn rMn0 (hRo 99) rMn3 rMn4 rMn5 rMn6 rMn7 rMn8 rMn9 rMn10 sMn ++ wRo K hRo sRo) H → va_D A (wMn K hMn rMn0 (hRo 99) rMn3 rMn4 rMn5 rMn6 rMn7 rMn8 rMn9 rMn10 sMn ++ wRo K hRo sRo) → va_S A s.heap H locs → lv_has ls 5 [] → W p l e (headSpec wz_X10_pump r_X10_pump).room s m args below meth c H locs 0 0 Q (F0 m 100 ls [.int y1, .ref (hMn 99)]) := by
    intro y1 sMn H locs ls hf hP hD hS hl
    unfold f_X10_pump_100 at hf
    obtain ⟨o18, go18, hf⟩ := bd_s hf
    refine rk_Vi (wn := wMn K hMn rMn0 (hRo 99) rMn3 rMn4 rMn5 rMn6 rMn7 rMn8 rMn9 rMn10 o18.2 ++ wRo K hRo sRo) [wMn K hMn rMn0 (hRo 99) rMn3 rMn4 rMn5 rMn6 rMn7 rMn8 rMn9 rMn10 sMn, wRo K hRo sRo] [wMn K hMn rMn0 (hRo 99) rMn3 rMn4 rMn5 rMn6 rMn7 rMn8 rMn9 rMn10 sMn] [wMn K hMn rMn0 (hRo 99) rMn3 rMn4 rMn5 rMn6 rMn7 rMn8 rMn9 rMn10 o18.2] [wMn K hMn rMn0 (hRo 99) rMn3 rMn4 rMn5 rMn6 rMn7 rMn8 rMn9 rMn10 o18.2, wRo K hRo sRo] (As := [.int y1]) (rest := []) ⟨hx, hb, hml, hown, hts⟩ (c_X10_accept l D K F hMn rMn0 (hRo 99) rMn3 rMn4 rMn5 rMn6 rMn7 rMn8 rMn9 rMn10 H.size sMn y1 o18 go18) (cwV 1 hts (gcV_X10_accept (mB17 _ (List.mem_of_getElem? (i := 14) rfl))) rfl rfl rfl hdV_X10_accept ⟨Nat.le_of_ble_eq_true rfl, Nat.le_of_ble_eq_true rfl⟩) hK hP hD hS hA [0] (fl2 _ _) rfl (by decide) (fl1 _) (fl1 _) rfl rfl (fl2 _ _) (va_recv hK hP (ci := 9) (q0 := 0) rfl (rwl o_Mn)) rfl hl.1 rfl (Nat.le_of_ble_eq_true rfl) dX10_pump_100 ⟨Nat.zero_le _, Nat.zero_le _⟩ (fun H locs hP hD hS => ?_)
    have hP : va_P D vwCl (wMn K hMn rMn0 (hRo 99) rMn3 rMn4 rMn5 rMn6 rMn7 rMn8 rMn9 rMn10 o18.2 ++ wRo K hRo sRo) H := hP
    have hD : va_D A (wMn K hMn rMn0 (hRo 99) rMn3 rMn4 rMn5 rMn6 rMn7 rMn8 rMn9 rMn10 o18.2 ++ wRo K hRo sRo) := hD
    have e9 := Option.some.inj hf
    rw [hQ]
    exact W.iret (v := o18.1) hx hb hr (fun t ht hW => ⟨⟨o18.1, o18.2, rfl, ⟨pr1 e9, pr2 e9⟩, ⟨by rw [ht]; exact hP, va_K.moved hW.alike hK, hD⟩⟩, hS.F ht⟩) hS.2.2 dX10_pump_103
  have hen : entryFrame m args 5 = entryFrame m (([.ref (hMn 99), .int p1, .int p2] : List Value).toArray) 5 := by rw [hargs]
  have hl := lv_entry ([.ref (hMn 99), .int p1, .int p2]) (n := 5) (Nat.le_of_ble_eq_true rfl)
  rw [hen, lg_entry_eq]
  generalize (lg_sl ([.ref (hMn 99), .int p1, .int p2]) ++ List.replicate (5 - (lg_sl ([.ref (hMn 99), .int p1, .int p2])).length) Slot.unset).toArray = ls at hl ⊢
  have hl : lv_has ls 5 [(0, .ref (hMn 99)), (1, .int p1), (2, .int p2)] := hl
  unfold f_X10_pump at hf
  obtain ⟨H, hHe⟩ : ∃ z, z = s.heap := ⟨_, rfl⟩
  obtain ⟨locs, hLe⟩ : ∃ z : List Loc, z = [] := ⟨_, rfl⟩
  rw [← hLe]
  have hS : va_S A s.heap H locs := by rw [hHe, hLe]; exact hS
  have hP : va_P D vwCl (wMn K hMn rMn0 (hRo 99) rMn3 rMn4 rMn5 rMn6 rMn7 rMn8 rMn9 rMn10 sMn ++ wRo K hRo sRo) H := by rw [hHe]; exact hP
  have hgo : W p l e (headSpec wz_X10_pump r_X10_pump).room s m args below meth c H locs 0 0 Q (F0 m 0 ls []) := by
    refine lv_aload_n hx hb dX10_pump_0 rfl (lv_at hl 0 rfl) ?_
    refine va_get (D := D) (ci := 9) (v := .ref (hRo 99)) (C := RX10) (T := TX10) (N := 14) hx hb hts iX10 hown hK hP 0 (rwl o_Mn) rfl 2 (by decide) (htl _ (mB1 _ (List.mem_of_getElem? (i := 18) rfl))) (fun _ h9 => h9) rfl dX10_pump_1 ?_
    refine lv_iload_n hx hb dX10_pump_4 rfl (lv_at hl 1 rfl) ?_
    obtain ⟨o1, go1, hf⟩ := bd_s hf
    refine ro_Vi (As := [.int p1]) (rest := []) ⟨hx, hb, hml, hown, hts⟩ (c_X9_isPlace l D K F hRo sRo p1 o1 go1) (cwV 1 hts (gcV_X9_isPlace (mB24 _ (List.mem_of_getElem? (i := 17) rfl))) rfl rfl rfl hdV_X9_isPlace ⟨Nat.le_of_ble_eq_true rfl, Nat.le_of_ble_eq_true rfl⟩) hK hP hS (va_PL (cs := [wMn K hMn rMn0 (hRo 99) rMn3 rMn4 rMn5 rMn6 rMn7 rMn8 rMn9 rMn10 sMn, wRo K hRo sRo]) (cc := [wRo K hRo sRo]) hP (fl2 _ _) [1] rfl (fl1 _)) (va_recv hK hP (ci := 8) (q0 := (1 + 0)) rfl (rwr ln_Mn o_Ro)) rfl hl.1 rfl (Nat.le_of_ble_eq_true rfl) dX10_pump_5 ⟨Nat.zero_le _, Nat.zero_le _⟩ (fun H locs hP hS => ?_)
    refine lv_if_eq (tgt := 20) hx hb dX10_pump_8 (by decide) (fun c2 => ?_) (fun c2 => ?_)
    · have hf := it_t hf c2
      exact w20 sMn H locs ls hf hP hD hS (lv_sub hl [0] rfl)
    · have hf := it_f hf c2
      refine lv_iload_n hx hb dX10_pump_11 rfl (lv_at hl 2 rfl) ?_
      refine lv_if_lt (tgt := 20) hx hb dX10_pump_12 (by decide) (fun c3 => ?_) (fun c3 => ?_)
      · have hf := it_t hf c3
        exact w20 sMn H locs ls hf hP hD hS (lv_sub hl [0] rfl)
      · have hf := it_f hf c3
        refine lv_iload_n hx hb dX10_pump_15 rfl (lv_at hl 2 rfl) ?_
        refine lv_iconst (v := (2 : Int32)) hx hb dX10_pump_16 (by decide) ?_
        refine lv_icmp_le (tgt := 26) hx hb dX10_pump_17 (by decide) (fun c4 => ?_) (fun c4 => ?_)
        · have hf := it_t hf c4
          refine lv_aload_n hx hb dX10_pump_26 rfl (lv_at hl 0 rfl) ?_
          refine va_get (D := D) (ci := 9) (v := .ref (hRo 99)) (C := RX10) (T := TX10) (N := 14) hx hb hts iX10 hown hK hP 0 (rwl o_Mn) rfl 2 (by decide) (htl _ (mB1 _ (List.mem_of_getElem? (i := 18) rfl))) (fun _ h9 => h9) rfl dX10_pump_27 ?_
          refine va_get (D := D) (ci := 8) (v := .ref (hRo 12)) (C := RX9) (T := TX9) (N := 19) hx hb hts iX9 hown hK hP (1 + 0) (rwr ln_Mn o_Ro) rfl 12 (by decide) (htl _ (mB25 _ (List.mem_of_getElem? (i := 19) rfl))) (fun _ h9 => h9) rfl dX10_pump_30 ?_
          refine lv_iload_n hx hb dX10_pump_33 rfl (lv_at hl 1 rfl) ?_
          obtain ⟨g5, hf⟩ := gd_s hf
          refine va_iald hx hb hK hP (1 + 3) 0 (f := sRo.2.2.1 12) (rwr ln_Mn a_Ro_12) rfl (vpb_in g5) dX10_pump_34 ?_
          refine lv_topi (fun v6 ev6 => ?_)
          have hf := lz_s hf v6 ev6
          refine lv_istore_n (lv' := [(3, .int v6), (0, .ref (hMn 99)), (1, .int p1), (2, .int p2)]) hx hb dX10_pump_35 rfl hl (by decide) rfl (fun ls hl => ?_)
          refine lv_iload_n hx hb dX10_pump_36 rfl (lv_at hl 0 rfl) ?_
          refine lv_if_ne (tgt := 47) hx hb dX10_pump_37 (by decide) (fun c7 => ?_) (fun c7 => ?_)
          · have hf := it_f hf c7
            refine lv_iload_n hx hb dX10_pump_47 rfl (lv_at hl 3 rfl) ?_
            refine lv_if_ne (tgt := 57) hx hb dX10_pump_48 (by decide) (fun c8 => ?_) (fun c8 => ?_)
            · have hf := it_f hf c8
              refine lv_iload_n hx hb dX10_pump_57 rfl (lv_at hl 3 rfl) ?_
              refine lv_iconst (v := (2 : Int32)) hx hb dX10_pump_58 (by decide) ?_
              refine lv_icmp_ne (tgt := 76) hx hb dX10_pump_59 (by decide) (fun c9 => ?_) (fun c9 => ?_)
              · have hf := it_f hf c9
                refine lv_aload_n hx hb dX10_pump_76 rfl (lv_at hl 1 rfl) ?_
                refine va_get (D := D) (ci := 9) (v := .ref (hRo 99)) (C := RX10) (T := TX10) (N := 14) hx hb hts iX10 hown hK hP 0 (rwl o_Mn) rfl 2 (by decide) (htl _ (mB1 _ (List.mem_of_getElem? (i := 18) rfl))) (fun _ h9 => h9) rfl dX10_pump_77 ?_
                refine va_get (D := D) (ci := 8) (v := .ref (hRo 13)) (C := RX9) (T := TX9) (N := 19) hx hb hts iX9 hown hK hP (1 + 0) (rwr ln_Mn o_Ro) rfl 13 (by decide) (htl _ (mB25 _ (List.mem_of_getElem? (i := 21) rfl))) (fun _ h9 => h9) rfl dX10_pump_80 ?_
                refine lv_iload_n hx hb dX10_pump_83 rfl (lv_at hl 2 rfl) ?_
                obtain ⟨g10, hf⟩ := gd_s hf
                refine va_iald hx hb hK hP (1 + 4) 0 (f := sRo.2.2.1 13) (rwr ln_Mn a_Ro_13) rfl (vpb_in g10) dX10_pump_84 ?_
                refine lv_topi (fun v11 ev11 => ?_)
                have hf := lz_s hf v11 ev11
                refine lv_istore (lv' := [(4, .int v11), (3, .int v6), (0, .ref (hMn 99)), (1, .int p1), (2, .int p2)]) hx hb dX10_pump_85 hl (by decide) rfl (fun ls hl => ?_)
                refine lv_aload_n hx hb dX10_pump_87 rfl (lv_at hl 2 rfl) ?_
                refine lv_iload hx hb dX10_pump_88 (lv_at hl 0 rfl) ?_
                refine lv_if_ne (tgt := 98) hx hb dX10_pump_90 (by decide) (fun c12 => ?_) (fun c12 => ?_)
                · have hf := it_f hf c12
                  refine lv_iload hx hb dX10_pump_98 (lv_at hl 0 rfl) ?_
                  exact w100 v11 sMn H locs ls hf hP hD hS (lv_sub hl [] rfl)
                · have hf := it_t hf c12
                  refine lv_bipush (v := (-2 : Int32)) hx hb dX10_pump_93 (by decide) ?_
                  refine lv_goto (tgt := 100) hx hb dX10_pump_95 (by decide) ?_
                  exact w100 (-2 : Int32) sMn H locs ls hf hP hD hS (lv_sub hl [] rfl)
              · have hf := it_t hf c9
                refine lv_aload_n hx hb dX10_pump_62 rfl (lv_at hl 1 rfl) ?_
                refine lv_aload_n hx hb dX10_pump_63 rfl (lv_at hl 1 rfl) ?_
                refine va_get (D := D) (ci := 9) (v := .ref (hRo 99)) (C := RX10) (T := TX10) (N := 14) hx hb hts iX10 hown hK hP 0 (rwl o_Mn) rfl 2 (by decide) (htl _ (mB1 _ (List.mem_of_getElem? (i := 18) rfl))) (fun _ h9 => h9) rfl dX10_pump_64 ?_
                refine va_get (D := D) (ci := 8) (v := .ref (hRo 14)) (C := RX9) (T := TX9) (N := 19) hx hb hts iX9 hown hK hP (1 + 0) (rwr ln_Mn o_Ro) rfl 14 (by decide) (htl _ (mB25 _ (List.mem_of_getElem? (i := 20) rfl))) (fun _ h9 => h9) rfl dX10_pump_67 ?_
                refine lv_iload_n hx hb dX10_pump_70 rfl (lv_at hl 2 rfl) ?_
                obtain ⟨g13, hf⟩ := gd_s hf
                refine va_iald hx hb hK hP (1 + 5) 0 (f := sRo.2.2.1 14) (rwr ln_Mn a_Ro_14) rfl (vpb_in g13) dX10_pump_71 ?_
                refine lv_topi (fun v14 ev14 => ?_)
                have hf := lz_s hf v14 ev14
                obtain ⟨o15, go15, hf⟩ := bd_s hf
                refine rk_Vi (wn := wMn K hMn rMn0 (hRo 99) rMn3 rMn4 rMn5 rMn6 rMn7 rMn8 rMn9 rMn10 o15.2 ++ wRo K hRo sRo) [wMn K hMn rMn0 (hRo 99) rMn3 rMn4 rMn5 rMn6 rMn7 rMn8 rMn9 rMn10 sMn, wRo K hRo sRo] [wMn K hMn rMn0 (hRo 99) rMn3 rMn4 rMn5 rMn6 rMn7 rMn8 rMn9 rMn10 sMn] [wMn K hMn rMn0 (hRo 99) rMn3 rMn4 rMn5 rMn6 rMn7 rMn8 rMn9 rMn10 o15.2] [wMn K hMn rMn0 (hRo 99) rMn3 rMn4 rMn5 rMn6 rMn7 rMn8 rMn9 rMn10 o15.2, wRo K hRo sRo] (As := [.int v14]) (rest := []) ⟨hx, hb, hml, hown, hts⟩ (c_X10_accept l D K F hMn rMn0 (hRo 99) rMn3 rMn4 rMn5 rMn6 rMn7 rMn8 rMn9 rMn10 H.size sMn v14 o15 go15) (cwV 1 hts (gcV_X10_accept (mB17 _ (List.mem_of_getElem? (i := 14) rfl))) rfl rfl rfl hdV_X10_accept ⟨Nat.le_of_ble_eq_true rfl, Nat.le_of_ble_eq_true rfl⟩) hK hP hD hS hA [0] (fl2 _ _) rfl (by decide) (fl1 _) (fl1 _) rfl rfl (fl2 _ _) (va_recv hK hP (ci := 9) (q0 := 0) rfl (rwl o_Mn)) rfl hl.1 rfl (Nat.le_of_ble_eq_true rfl) dX10_pump_72 ⟨Nat.zero_le _, Nat.zero_le _⟩ (fun H locs hP hD hS => ?_)
                have hP : va_P D vwCl (wMn K hMn rMn0 (hRo 99) rMn3 rMn4 rMn5 rMn6 rMn7 rMn8 rMn9 rMn10 o15.2 ++ wRo K hRo sRo) H := hP
                have hD : va_D A (wMn K hMn rMn0 (hRo 99) rMn3 rMn4 rMn5 rMn6 rMn7 rMn8 rMn9 rMn10 o15.2 ++ wRo K hRo sRo) := hD
                have e9 := Option.some.inj hf
                rw [hQ]
                exact W.iret (v := o15.1) hx hb hr (fun t ht hW => ⟨⟨o15.1, o15.2, rfl, ⟨pr1 e9, pr2 e9⟩, ⟨by rw [ht]; exact hP, va_K.moved hW.alike hK, hD⟩⟩, hS.F ht⟩) hS.2.2 dX10_pump_75
            · have hf := it_t hf c8
              refine lv_aload_n hx hb dX10_pump_51 rfl (lv_at hl 1 rfl) ?_
              refine lv_iload_n hx hb dX10_pump_52 rfl (lv_at hl 0 rfl) ?_
              obtain ⟨o16, go16, hf⟩ := bd_s hf
              refine rk_Vi (wn := wMn K hMn rMn0 (hRo 99) rMn3 rMn4 rMn5 rMn6 rMn7 rMn8 rMn9 rMn10 o16.2 ++ wRo K hRo sRo) [wMn K hMn rMn0 (hRo 99) rMn3 rMn4 rMn5 rMn6 rMn7 rMn8 rMn9 rMn10 sMn, wRo K hRo sRo] [wMn K hMn rMn0 (hRo 99) rMn3 rMn4 rMn5 rMn6 rMn7 rMn8 rMn9 rMn10 sMn] [wMn K hMn rMn0 (hRo 99) rMn3 rMn4 rMn5 rMn6 rMn7 rMn8 rMn9 rMn10 o16.2] [wMn K hMn rMn0 (hRo 99) rMn3 rMn4 rMn5 rMn6 rMn7 rMn8 rMn9 rMn10 o16.2, wRo K hRo sRo] (As := [.int v6]) (rest := []) ⟨hx, hb, hml, hown, hts⟩ (c_X10_accept l D K F hMn rMn0 (hRo 99) rMn3 rMn4 rMn5 rMn6 rMn7 rMn8 rMn9 rMn10 H.size sMn v6 o16 go16) (cwV 1 hts (gcV_X10_accept (mB17 _ (List.mem_of_getElem? (i := 14) rfl))) rfl rfl rfl hdV_X10_accept ⟨Nat.le_of_ble_eq_true rfl, Nat.le_of_ble_eq_true rfl⟩) hK hP hD hS hA [0] (fl2 _ _) rfl (by decide) (fl1 _) (fl1 _) rfl rfl (fl2 _ _) (va_recv hK hP (ci := 9) (q0 := 0) rfl (rwl o_Mn)) rfl hl.1 rfl (Nat.le_of_ble_eq_true rfl) dX10_pump_53 ⟨Nat.zero_le _, Nat.zero_le _⟩ (fun H locs hP hD hS => ?_)
              have hP : va_P D vwCl (wMn K hMn rMn0 (hRo 99) rMn3 rMn4 rMn5 rMn6 rMn7 rMn8 rMn9 rMn10 o16.2 ++ wRo K hRo sRo) H := hP
              have hD : va_D A (wMn K hMn rMn0 (hRo 99) rMn3 rMn4 rMn5 rMn6 rMn7 rMn8 rMn9 rMn10 o16.2 ++ wRo K hRo sRo) := hD
              have e9 := Option.some.inj hf
              rw [hQ]
              exact W.iret (v := o16.1) hx hb hr (fun t ht hW => ⟨⟨o16.1, o16.2, rfl, ⟨pr1 e9, pr2 e9⟩, ⟨by rw [ht]; exact hP, va_K.moved hW.alike hK, hD⟩⟩, hS.F ht⟩) hS.2.2 dX10_pump_56
          · have hf := it_t hf c7
            refine lv_aload_n hx hb dX10_pump_40 rfl (lv_at hl 1 rfl) ?_
            refine lv_bipush (v := (6 : Int32)) hx hb dX10_pump_41 (by decide) ?_
            obtain ⟨o17, go17, hf⟩ := bd_s hf
            refine rk_Vi (wn := wMn K hMn rMn0 (hRo 99) rMn3 rMn4 rMn5 rMn6 rMn7 rMn8 rMn9 rMn10 o17.2 ++ wRo K hRo sRo) [wMn K hMn rMn0 (hRo 99) rMn3 rMn4 rMn5 rMn6 rMn7 rMn8 rMn9 rMn10 sMn, wRo K hRo sRo] [wMn K hMn rMn0 (hRo 99) rMn3 rMn4 rMn5 rMn6 rMn7 rMn8 rMn9 rMn10 sMn] [wMn K hMn rMn0 (hRo 99) rMn3 rMn4 rMn5 rMn6 rMn7 rMn8 rMn9 rMn10 o17.2] [wMn K hMn rMn0 (hRo 99) rMn3 rMn4 rMn5 rMn6 rMn7 rMn8 rMn9 rMn10 o17.2, wRo K hRo sRo] (As := [.int (6 : Int32)]) (rest := []) ⟨hx, hb, hml, hown, hts⟩ (c_X10_refuse l D K F hMn rMn0 (hRo 99) rMn3 rMn4 rMn5 rMn6 rMn7 rMn8 rMn9 rMn10 H.size sMn (6 : Int32) o17 go17) (cwV 1 hts (gcV_X10_refuse (mB7 _ (List.mem_of_getElem? (i := 18) rfl))) rfl rfl rfl hdV_X10_refuse ⟨Nat.le_of_ble_eq_true rfl, Nat.le_of_ble_eq_true rfl⟩) hK hP hD hS hA [0] (fl2 _ _) rfl (by decide) (fl1 _) (fl1 _) rfl rfl (fl2 _ _) (va_recv hK hP (ci := 9) (q0 := 0) rfl (rwl o_Mn)) rfl hl.1 rfl (Nat.le_of_ble_eq_true rfl) dX10_pump_43 ⟨Nat.zero_le _, Nat.zero_le _⟩ (fun H locs hP hD hS => ?_)
            have hP : va_P D vwCl (wMn K hMn rMn0 (hRo 99) rMn3 rMn4 rMn5 rMn6 rMn7 rMn8 rMn9 rMn10 o17.2 ++ wRo K hRo sRo) H := hP
            have hD : va_D A (wMn K hMn rMn0 (hRo 99) rMn3 rMn4 rMn5 rMn6 rMn7 rMn8 rMn9 rMn10 o17.2 ++ wRo K hRo sRo) := hD
            have e9 := Option.some.inj hf
            rw [hQ]
            exact W.iret (v := o17.1) hx hb hr (fun t ht hW => ⟨⟨o17.1, o17.2, rfl, ⟨pr1 e9, pr2 e9⟩, ⟨by rw [ht]; exact hP, va_K.moved hW.alike hK, hD⟩⟩, hS.F ht⟩) hS.2.2 dX10_pump_46
        · have hf := it_f hf c4
          exact w20 sMn H locs ls hf hP hD hS (lv_sub hl [0] rfl)
  rw [hHe] at hgo
  exact hgo

theorem gcV_X9_isStation {T0 : Cond} {own : String} {i : Nat} (h : Cond.methodLink own i yX9_isStation ∈ wsL_law) : GoodIn (T0 :: wsL_law) (wsV own i RX9 yX9_isStation wz_X9_isStation) := gV h (mB26 _ (List.mem_of_getElem? (i := 8) rfl)) (mB26 _ (List.mem_of_getElem? (i := 9) rfl)) (mB1 _ (List.mem_of_getElem? (i := 17) rfl)) (mB26 _ (List.mem_of_getElem? (i := 10) rfl))
theorem hdV_X9_isStation : yX9_isStation.cls = RX9 ∧ yX9_isStation.cls ≠ "java/lang/invoke/MethodHandle" ∧ yX9_isStation.cls ≠ "java/lang/invoke/VarHandle" ∧ (parseMethodDescriptor yX9_isStation.desc).map (fun d => d.parameters.length) = some 1 := by decide +kernel
def wz_X10_station : List Cond := .code yX10_station cX10_station 2 (some .int) :: wsL_law
abbrev r_X10_station : Room := { frames := 1, cells := 0, slots := 0, locals := 21 }
set_option maxHeartbeats 4000000 in
set_option maxRecDepth 100000 in
theorem c_X10_station (l : Launch) (D : va_G) (K : Nat → ClassId) (F : Nat) (hMn : Nat → Nat) (rMn0 : Nat) (rMn3 : Nat) (rMn4 : Nat) (rMn5 : Nat) (rMn6 : Nat) (rMn7 : Nat) (rMn8 : Nat) (rMn9 : Nat) (rMn10 : Nat) (hRo : Nat → Nat) (sz : Nat) (sMn : MS) (sRo : MS) (p1 : Int32) (res : Int32 × MS) (hf : f_X10_station F sRo p1 sMn = some res) : Met l yX10_station wz_X10_station r_X10_station (va_Pc [.ref (hMn 99), .int p1] (PW D K (wMn K hMn rMn0 (hRo 99) rMn3 rMn4 rMn5 rMn6 rMn7 rMn8 rMn9 rMn10 sMn ++ wRo K hRo sRo) sz)) (va_Qi (fun r u => r = res.1 ∧ u = res.2) (fun u t => BW D K (va_A (wMn K hMn rMn0 (hRo 99) rMn3 rMn4 rMn5 rMn6 rMn7 rMn8 rMn9 rMn10 sMn ++ wRo K hRo sRo) sz) (wMn K hMn rMn0 (hRo 99) rMn3 rMn4 rMn5 rMn6 rMn7 rMn8 rMn9 rMn10 u ++ wRo K hRo sRo) t) (va_A (wMn K hMn rMn0 (hRo 99) rMn3 rMn4 rMn5 rMn6 rMn7 rMn8 rMn9 rMn10 sMn ++ wRo K hRo sRo) sz)) 0 0 (va_A (wMn K hMn rMn0 (hRo 99) rMn3 rMn4 rMn5 rMn6 rMn7 rMn8 rMn9 rMn10 sMn ++ wRo K hRo sRo) sz) := by
  refine Met.ofW (cc := cX10_station) (maxL := 2) (ret := (some .int)) (by decide) rfl ?_
  intro p e s m args below meth c s₁ B hml hv
  obtain ⟨hargs, hsz, hP, hK, hD0⟩ := hv
  have hx := B.exec
  have hb := B.bytes
  have hr := B.returns
  have hts := atoms_spec (ws := wz_X10_station) B.pre
  have htl : ∀ w ∈ wsL_law, w.before args s = true := fun w h => hts w (List.mem_cons_of_mem _ h)
  have hown : s.vm.findClass RX10 = some m.cls := findClass_of_methodNamed B.named
  have hlocks := B.notSynchronized
  subst hsz
  have hD := hD0.self (sz := s.heap.size)
  generalize hAe : va_A (wMn K hMn rMn0 (hRo 99) rMn3 rMn4 rMn5 rMn6 rMn7 rMn8 rMn9 rMn10 sMn ++ wRo K hRo sRo) s.heap.size = A at hD ⊢
  have hA : ∀ q : Nat, s.heap.size ≤ q → A q := fun q h => by rw [← hAe]; exact Or.inr h
  have hS : va_S A s.heap s.heap [] := va_S.rf
  have iX10 : ∀ w ∈ wsX100, w ∈ wz_X10_station := fun w h => List.mem_cons_of_mem _ (inlX10 w h)
  have iX9 : ∀ w ∈ wsX90, w ∈ wz_X10_station := fun w h => List.mem_cons_of_mem _ (inlX9 w h)
  suffices hgo : ∀ Q : State → Prop, Q = MQ below (va_Qi (fun r u => r = res.1 ∧ u = res.2) (fun u t => BW D K A (wMn K hMn rMn0 (hRo 99) rMn3 rMn4 rMn5 rMn6 rMn7 rMn8 rMn9 rMn10 u ++ wRo K hRo sRo) t) A) args s 0 0 A → W p l e (headSpec wz_X10_station r_X10_station).room s m args below meth c s.heap [] 0 0 Q (entryFrame m args 2) from hgo _ rfl
  intro Q hQ
  have hen : entryFrame m args 2 = entryFrame m (([.ref (hMn 99), .int p1] : List Value).toArray) 2 := by rw [hargs]
  have hl := lv_entry ([.ref (hMn 99), .int p1]) (n := 2) (Nat.le_of_ble_eq_true rfl)
  rw [hen, lg_entry_eq]
  generalize (lg_sl ([.ref (hMn 99), .int p1]) ++ List.replicate (2 - (lg_sl ([.ref (hMn 99), .int p1])).length) Slot.unset).toArray = ls at hl ⊢
  have hl : lv_has ls 2 [(0, .ref (hMn 99)), (1, .int p1)] := hl
  unfold f_X10_station at hf
  obtain ⟨H, hHe⟩ : ∃ z, z = s.heap := ⟨_, rfl⟩
  obtain ⟨locs, hLe⟩ : ∃ z : List Loc, z = [] := ⟨_, rfl⟩
  rw [← hLe]
  have hS : va_S A s.heap H locs := by rw [hHe, hLe]; exact hS
  have hP : va_P D vwCl (wMn K hMn rMn0 (hRo 99) rMn3 rMn4 rMn5 rMn6 rMn7 rMn8 rMn9 rMn10 sMn ++ wRo K hRo sRo) H := by rw [hHe]; exact hP
  have hgo : W p l e (headSpec wz_X10_station r_X10_station).room s m args below meth c H locs 0 0 Q (F0 m 0 ls []) := by
    refine lv_aload_n hx hb dX10_station_0 rfl (lv_at hl 0 rfl) ?_
    refine va_get (D := D) (ci := 9) (v := .ref (hRo 99)) (C := RX10) (T := TX10) (N := 14) hx hb hts iX10 hown hK hP 0 (rwl o_Mn) rfl 2 (by decide) (htl _ (mB1 _ (List.mem_of_getElem? (i := 18) rfl))) (fun _ h9 => h9) rfl dX10_station_1 ?_
    refine lv_iload_n hx hb dX10_station_4 rfl (lv_at hl 1 rfl) ?_
    obtain ⟨o1, go1, hf⟩ := bd_s hf
    refine ro_Vi (As := [.int p1]) (rest := []) ⟨hx, hb, hml, hown, hts⟩ (c_X9_isStation l D K F hRo sRo p1 o1 go1) (cwV 1 hts (gcV_X9_isStation (mB26 _ (List.mem_of_getElem? (i := 7) rfl))) rfl rfl rfl hdV_X9_isStation ⟨Nat.le_of_ble_eq_true rfl, Nat.le_of_ble_eq_true rfl⟩) hK hP hS (va_PL (cs := [wMn K hMn rMn0 (hRo 99) rMn3 rMn4 rMn5 rMn6 rMn7 rMn8 rMn9 rMn10 sMn, wRo K hRo sRo]) (cc := [wRo K hRo sRo]) hP (fl2 _ _) [1] rfl (fl1 _)) (va_recv hK hP (ci := 8) (q0 := (1 + 0)) rfl (rwr ln_Mn o_Ro)) rfl hl.1 rfl (Nat.le_of_ble_eq_true rfl) dX10_station_5 ⟨Nat.zero_le _, Nat.zero_le _⟩ (fun H locs hP hS => ?_)
    refine lv_if_ne (tgt := 17) hx hb dX10_station_8 (by decide) (fun c2 => ?_) (fun c2 => ?_)
    · have hf := it_f hf c2
      refine lv_aload_n hx hb dX10_station_17 rfl (lv_at hl 0 rfl) ?_
      refine lv_aload_n hx hb dX10_station_18 rfl (lv_at hl 0 rfl) ?_
      refine va_get (D := D) (ci := 9) (v := .ref (hRo 99)) (C := RX10) (T := TX10) (N := 14) hx hb hts iX10 hown hK hP 0 (rwl o_Mn) rfl 2 (by decide) (htl _ (mB1 _ (List.mem_of_getElem? (i := 18) rfl))) (fun _ h9 => h9) rfl dX10_station_19 ?_
      refine va_get (D := D) (ci := 8) (v := .ref (hRo 15)) (C := RX9) (T := TX9) (N := 19) hx hb hts iX9 hown hK hP (1 + 0) (rwr ln_Mn o_Ro) rfl 15 (by decide) (htl _ (mB26 _ (List.mem_of_getElem? (i := 6) rfl))) (fun _ h9 => h9) rfl dX10_station_22 ?_
      refine lv_iload_n hx hb dX10_station_25 rfl (lv_at hl 1 rfl) ?_
      obtain ⟨g3, hf⟩ := gd_s hf
      refine va_iald hx hb hK hP (1 + 6) 0 (f := sRo.2.2.1 15) (rwr ln_Mn a_Ro_15) rfl (vpb_in g3) dX10_station_26 ?_
      refine lv_topi (fun v4 ev4 => ?_)
      have hf := lz_s hf v4 ev4
      obtain ⟨o5, go5, hf⟩ := bd_s hf
      refine rk_Vi (wn := wMn K hMn rMn0 (hRo 99) rMn3 rMn4 rMn5 rMn6 rMn7 rMn8 rMn9 rMn10 o5.2 ++ wRo K hRo sRo) [wMn K hMn rMn0 (hRo 99) rMn3 rMn4 rMn5 rMn6 rMn7 rMn8 rMn9 rMn10 sMn, wRo K hRo sRo] [wMn K hMn rMn0 (hRo 99) rMn3 rMn4 rMn5 rMn6 rMn7 rMn8 rMn9 rMn10 sMn] [wMn K hMn rMn0 (hRo 99) rMn3 rMn4 rMn5 rMn6 rMn7 rMn8 rMn9 rMn10 o5.2] [wMn K hMn rMn0 (hRo 99) rMn3 rMn4 rMn5 rMn6 rMn7 rMn8 rMn9 rMn10 o5.2, wRo K hRo sRo] (As := [.int v4]) (rest := []) ⟨hx, hb, hml, hown, hts⟩ (c_X10_accept l D K F hMn rMn0 (hRo 99) rMn3 rMn4 rMn5 rMn6 rMn7 rMn8 rMn9 rMn10 H.size sMn v4 o5 go5) (cwV 1 hts (gcV_X10_accept (mB17 _ (List.mem_of_getElem? (i := 14) rfl))) rfl rfl rfl hdV_X10_accept ⟨Nat.le_of_ble_eq_true rfl, Nat.le_of_ble_eq_true rfl⟩) hK hP hD hS hA [0] (fl2 _ _) rfl (by decide) (fl1 _) (fl1 _) rfl rfl (fl2 _ _) (va_recv hK hP (ci := 9) (q0 := 0) rfl (rwl o_Mn)) rfl hl.1 rfl (Nat.le_of_ble_eq_true rfl) dX10_station_27 ⟨Nat.zero_le _, Nat.zero_le _⟩ (fun H locs hP hD hS => ?_)
      have hP : va_P D vwCl (wMn K hMn rMn0 (hRo 99) rMn3 rMn4 rMn5 rMn6 rMn7 rMn8 rMn9 rMn10 o5.2 ++ wRo K hRo sRo) H := hP
      have hD : va_D A (wMn K hMn rMn0 (hRo 99) rMn3 rMn4 rMn5 rMn6 rMn7 rMn8 rMn9 rMn10 o5.2 ++ wRo K hRo sRo) := hD
      have e9 := Option.some.inj hf
      rw [hQ]
      exact W.iret (v := o5.1) hx hb hr (fun t ht hW => ⟨⟨o5.1, o5.2, rfl, ⟨pr1 e9, pr2 e9⟩, ⟨by rw [ht]; exact hP, va_K.moved hW.alike hK, hD⟩⟩, hS.F ht⟩) hS.2.2 dX10_station_30
    · have hf := it_t hf c2
      refine lv_aload_n hx hb dX10_station_11 rfl (lv_at hl 0 rfl) ?_
      refine lv_iconst (v := (1 : Int32)) hx hb dX10_station_12 (by decide) ?_
      obtain ⟨o6, go6, hf⟩ := bd_s hf
      refine rk_Vi (wn := wMn K hMn rMn0 (hRo 99) rMn3 rMn4 rMn5 rMn6 rMn7 rMn8 rMn9 rMn10 o6.2 ++ wRo K hRo sRo) [wMn K hMn rMn0 (hRo 99) rMn3 rMn4 rMn5 rMn6 rMn7 rMn8 rMn9 rMn10 sMn, wRo K hRo sRo] [wMn K hMn rMn0 (hRo 99) rMn3 rMn4 rMn5 rMn6 rMn7 rMn8 rMn9 rMn10 sMn] [wMn K hMn rMn0 (hRo 99) rMn3 rMn4 rMn5 rMn6 rMn7 rMn8 rMn9 rMn10 o6.2] [wMn K hMn rMn0 (hRo 99) rMn3 rMn4 rMn5 rMn6 rMn7 rMn8 rMn9 rMn10 o6.2, wRo K hRo sRo] (As := [.int (1 : Int32)]) (rest := []) ⟨hx, hb, hml, hown, hts⟩ (c_X10_refuse l D K F hMn rMn0 (hRo 99) rMn3 rMn4 rMn5 rMn6 rMn7 rMn8 rMn9 rMn10 H.size sMn (1 : Int32) o6 go6) (cwV 1 hts (gcV_X10_refuse (mB7 _ (List.mem_of_getElem? (i := 18) rfl))) rfl rfl rfl hdV_X10_refuse ⟨Nat.le_of_ble_eq_true rfl, Nat.le_of_ble_eq_true rfl⟩) hK hP hD hS hA [0] (fl2 _ _) rfl (by decide) (fl1 _) (fl1 _) rfl rfl (fl2 _ _) (va_recv hK hP (ci := 9) (q0 := 0) rfl (rwl o_Mn)) rfl hl.1 rfl (Nat.le_of_ble_eq_true rfl) dX10_station_13 ⟨Nat.zero_le _, Nat.zero_le _⟩ (fun H locs hP hD hS => ?_)
      have hP : va_P D vwCl (wMn K hMn rMn0 (hRo 99) rMn3 rMn4 rMn5 rMn6 rMn7 rMn8 rMn9 rMn10 o6.2 ++ wRo K hRo sRo) H := hP
      have hD : va_D A (wMn K hMn rMn0 (hRo 99) rMn3 rMn4 rMn5 rMn6 rMn7 rMn8 rMn9 rMn10 o6.2 ++ wRo K hRo sRo) := hD
      have e9 := Option.some.inj hf
      rw [hQ]
      exact W.iret (v := o6.1) hx hb hr (fun t ht hW => ⟨⟨o6.1, o6.2, rfl, ⟨pr1 e9, pr2 e9⟩, ⟨by rw [ht]; exact hP, va_K.moved hW.alike hK, hD⟩⟩, hS.F ht⟩) hS.2.2 dX10_station_16
  rw [hHe] at hgo
  exact hgo

theorem gcV_X9_legsPints {T0 : Cond} {own : String} {i : Nat} (h : Cond.methodLink own i yX9_legsPints ∈ wsL_law) : GoodIn (T0 :: wsL_law) (wsV own i RX9 yX9_legsPints wz_X9_legsPints) := gV h (mB27 _ (List.mem_of_getElem? (i := 4) rfl)) (mB27 _ (List.mem_of_getElem? (i := 5) rfl)) (mB1 _ (List.mem_of_getElem? (i := 17) rfl)) (mB27 _ (List.mem_of_getElem? (i := 6) rfl))
theorem hdV_X9_legsPints : yX9_legsPints.cls = RX9 ∧ yX9_legsPints.cls ≠ "java/lang/invoke/MethodHandle" ∧ yX9_legsPints.cls ≠ "java/lang/invoke/VarHandle" ∧ (parseMethodDescriptor yX9_legsPints.desc).map (fun d => d.parameters.length) = some 2 := by decide +kernel
def wz_X10_legs : List Cond := .code yX10_legs cX10_legs 3 (some .int) :: wsL_law
abbrev r_X10_legs : Room := { frames := 1, cells := 0, slots := 0, locals := 22 }
set_option maxHeartbeats 4000000 in
set_option maxRecDepth 100000 in
theorem c_X10_legs (l : Launch) (D : va_G) (K : Nat → ClassId) (F : Nat) (hMn : Nat → Nat) (rMn0 : Nat) (rMn3 : Nat) (rMn4 : Nat) (rMn5 : Nat) (rMn6 : Nat) (rMn7 : Nat) (rMn8 : Nat) (rMn9 : Nat) (rMn10 : Nat) (hRo : Nat → Nat) (sz : Nat) (sMn : MS) (sRo : MS) (p1 : Int32) (p2 : Int32) (res : Int32 × MS) (hf : f_X10_legs F sRo p1 p2 sMn = some res) : Met l yX10_legs wz_X10_legs r_X10_legs (va_Pc [.ref (hMn 99), .int p1, .int p2] (PW D K (wMn K hMn rMn0 (hRo 99) rMn3 rMn4 rMn5 rMn6 rMn7 rMn8 rMn9 rMn10 sMn ++ wRo K hRo sRo) sz)) (va_Qi (fun r u => r = res.1 ∧ u = res.2) (fun u t => BW D K (va_A (wMn K hMn rMn0 (hRo 99) rMn3 rMn4 rMn5 rMn6 rMn7 rMn8 rMn9 rMn10 sMn ++ wRo K hRo sRo) sz) (wMn K hMn rMn0 (hRo 99) rMn3 rMn4 rMn5 rMn6 rMn7 rMn8 rMn9 rMn10 u ++ wRo K hRo sRo) t) (va_A (wMn K hMn rMn0 (hRo 99) rMn3 rMn4 rMn5 rMn6 rMn7 rMn8 rMn9 rMn10 sMn ++ wRo K hRo sRo) sz)) 0 0 (va_A (wMn K hMn rMn0 (hRo 99) rMn3 rMn4 rMn5 rMn6 rMn7 rMn8 rMn9 rMn10 sMn ++ wRo K hRo sRo) sz) := by
  refine Met.ofW (cc := cX10_legs) (maxL := 3) (ret := (some .int)) (by decide) rfl ?_
  intro p e s m args below meth c s₁ B hml hv
  obtain ⟨hargs, hsz, hP, hK, hD0⟩ := hv
  have hx := B.exec
  have hb := B.bytes
  have hr := B.returns
  have hts := atoms_spec (ws := wz_X10_legs) B.pre
  have htl : ∀ w ∈ wsL_law, w.before args s = true := fun w h => hts w (List.mem_cons_of_mem _ h)
  have hown : s.vm.findClass RX10 = some m.cls := findClass_of_methodNamed B.named
  have hlocks := B.notSynchronized
  subst hsz
  have hD := hD0.self (sz := s.heap.size)
  generalize hAe : va_A (wMn K hMn rMn0 (hRo 99) rMn3 rMn4 rMn5 rMn6 rMn7 rMn8 rMn9 rMn10 sMn ++ wRo K hRo sRo) s.heap.size = A at hD ⊢
  have hA : ∀ q : Nat, s.heap.size ≤ q → A q := fun q h => by rw [← hAe]; exact Or.inr h
  have hS : va_S A s.heap s.heap [] := va_S.rf
  have iX10 : ∀ w ∈ wsX100, w ∈ wz_X10_legs := fun w h => List.mem_cons_of_mem _ (inlX10 w h)
  suffices hgo : ∀ Q : State → Prop, Q = MQ below (va_Qi (fun r u => r = res.1 ∧ u = res.2) (fun u t => BW D K A (wMn K hMn rMn0 (hRo 99) rMn3 rMn4 rMn5 rMn6 rMn7 rMn8 rMn9 rMn10 u ++ wRo K hRo sRo) t) A) args s 0 0 A → W p l e (headSpec wz_X10_legs r_X10_legs).room s m args below meth c s.heap [] 0 0 Q (entryFrame m args 3) from hgo _ rfl
  intro Q hQ
  have w27 : ∀ (sMn : MS), ∀ (H : Heap) (locs : List Loc) (ls : Array Slot), f_X10_legs_27 F sRo p1 p2 sMn = some res → va_P D vwCl (wMn K hMn rMn0 (hRo 99) rMn3 rMn4 rMn5 rMn6 rMn7 rMn8 rMn9 rMn10 sMn ++ wRo K hRo sRo) H → va_D A (wMn K hMn rMn0 (hRo 99) rMn3 rMn4 rMn5 rMn6 rMn7 rMn8 rMn9 rMn10 sMn ++ wRo K hRo sRo) → va_S A s.heap H locs → lv_has ls 3 [(0, .ref (hMn 99))] → W p l e (headSpec wz_X10_legs r_X10_legs).room s m args below meth c H locs 0 0 Q (F0 m 27 ls []) := by
    intro sMn H locs ls hf hP hD hS hl
    unfold f_X10_legs_27 at hf
    refine lv_aload_n hx hb dX10_legs_27 rfl (lv_at hl 0 rfl) ?_
    refine lv_iconst (v := (1 : Int32)) hx hb dX10_legs_28 (by decide) ?_
    obtain ⟨o8, go8, hf⟩ := bd_s hf
    refine rk_Vi (wn := wMn K hMn rMn0 (hRo 99) rMn3 rMn4 rMn5 rMn6 rMn7 rMn8 rMn9 rMn10 o8.2 ++ wRo K hRo sRo) [wMn K hMn rMn0 (hRo 99) rMn3 rMn4 rMn5 rMn6 rMn7 rMn8 rMn9 rMn10 sMn, wRo K hRo sRo] [wMn K hMn rMn0 (hRo 99) rMn3 rMn4 rMn5 rMn6 rMn7 rMn8 rMn9 rMn10 sMn] [wMn K hMn rMn0 (hRo 99) rMn3 rMn4 rMn5 rMn6 rMn7 rMn8 rMn9 rMn10 o8.2] [wMn K hMn rMn0 (hRo 99) rMn3 rMn4 rMn5 rMn6 rMn7 rMn8 rMn9 rMn10 o8.2, wRo K hRo sRo] (As := [.int (1 : Int32)]) (rest := []) ⟨hx, hb, hml, hown, hts⟩ (c_X10_refuse l D K F hMn rMn0 (hRo 99) rMn3 rMn4 rMn5 rMn6 rMn7 rMn8 rMn9 rMn10 H.size sMn (1 : Int32) o8 go8) (cwV 1 hts (gcV_X10_refuse (mB7 _ (List.mem_of_getElem? (i := 18) rfl))) rfl rfl rfl hdV_X10_refuse ⟨Nat.le_of_ble_eq_true rfl, Nat.le_of_ble_eq_true rfl⟩) hK hP hD hS hA [0] (fl2 _ _) rfl (by decide) (fl1 _) (fl1 _) rfl rfl (fl2 _ _) (va_recv hK hP (ci := 9) (q0 := 0) rfl (rwl o_Mn)) rfl hl.1 rfl (Nat.le_of_ble_eq_true rfl) dX10_legs_29 ⟨Nat.zero_le _, Nat.zero_le _⟩ (fun H locs hP hD hS => ?_)
    have hP : va_P D vwCl (wMn K hMn rMn0 (hRo 99) rMn3 rMn4 rMn5 rMn6 rMn7 rMn8 rMn9 rMn10 o8.2 ++ wRo K hRo sRo) H := hP
    have hD : va_D A (wMn K hMn rMn0 (hRo 99) rMn3 rMn4 rMn5 rMn6 rMn7 rMn8 rMn9 rMn10 o8.2 ++ wRo K hRo sRo) := hD
    have e9 := Option.some.inj hf
    rw [hQ]
    exact W.iret (v := o8.1) hx hb hr (fun t ht hW => ⟨⟨o8.1, o8.2, rfl, ⟨pr1 e9, pr2 e9⟩, ⟨by rw [ht]; exact hP, va_K.moved hW.alike hK, hD⟩⟩, hS.F ht⟩) hS.2.2 dX10_legs_32
  have hen : entryFrame m args 3 = entryFrame m (([.ref (hMn 99), .int p1, .int p2] : List Value).toArray) 3 := by rw [hargs]
  have hl := lv_entry ([.ref (hMn 99), .int p1, .int p2]) (n := 3) (Nat.le_of_ble_eq_true rfl)
  rw [hen, lg_entry_eq]
  generalize (lg_sl ([.ref (hMn 99), .int p1, .int p2]) ++ List.replicate (3 - (lg_sl ([.ref (hMn 99), .int p1, .int p2])).length) Slot.unset).toArray = ls at hl ⊢
  have hl : lv_has ls 3 [(0, .ref (hMn 99)), (1, .int p1), (2, .int p2)] := hl
  unfold f_X10_legs at hf
  obtain ⟨H, hHe⟩ : ∃ z, z = s.heap := ⟨_, rfl⟩
  obtain ⟨locs, hLe⟩ : ∃ z : List Loc, z = [] := ⟨_, rfl⟩
  rw [← hLe]
  have hS : va_S A s.heap H locs := by rw [hHe, hLe]; exact hS
  have hP : va_P D vwCl (wMn K hMn rMn0 (hRo 99) rMn3 rMn4 rMn5 rMn6 rMn7 rMn8 rMn9 rMn10 sMn ++ wRo K hRo sRo) H := by rw [hHe]; exact hP
  have hgo : W p l e (headSpec wz_X10_legs r_X10_legs).room s m args below meth c H locs 0 0 Q (F0 m 0 ls []) := by
    refine lv_aload_n hx hb dX10_legs_0 rfl (lv_at hl 0 rfl) ?_
    refine va_get (D := D) (ci := 9) (v := .ref (hRo 99)) (C := RX10) (T := TX10) (N := 14) hx hb hts iX10 hown hK hP 0 (rwl o_Mn) rfl 2 (by decide) (htl _ (mB1 _ (List.mem_of_getElem? (i := 18) rfl))) (fun _ h9 => h9) rfl dX10_legs_1 ?_
    refine lv_iload_n hx hb dX10_legs_4 rfl (lv_at hl 1 rfl) ?_
    obtain ⟨o1, go1, hf⟩ := bd_s hf
    refine ro_Vi (As := [.int p1]) (rest := []) ⟨hx, hb, hml, hown, hts⟩ (c_X9_isStation l D K F hRo sRo p1 o1 go1) (cwV 1 hts (gcV_X9_isStation (mB26 _ (List.mem_of_getElem? (i := 7) rfl))) rfl rfl rfl hdV_X9_isStation ⟨Nat.le_of_ble_eq_true rfl, Nat.le_of_ble_eq_true rfl⟩) hK hP hS (va_PL (cs := [wMn K hMn rMn0 (hRo 99) rMn3 rMn4 rMn5 rMn6 rMn7 rMn8 rMn9 rMn10 sMn, wRo K hRo sRo]) (cc := [wRo K hRo sRo]) hP (fl2 _ _) [1] rfl (fl1 _)) (va_recv hK hP (ci := 8) (q0 := (1 + 0)) rfl (rwr ln_Mn o_Ro)) rfl hl.1 rfl (Nat.le_of_ble_eq_true rfl) dX10_legs_5 ⟨Nat.zero_le _, Nat.zero_le _⟩ (fun H locs hP hS => ?_)
    refine lv_if_eq (tgt := 27) hx hb dX10_legs_8 (by decide) (fun c2 => ?_) (fun c2 => ?_)
    · have hf := it_t hf c2
      exact w27 sMn H locs ls hf hP hD hS (lv_sub hl [0] rfl)
    · have hf := it_f hf c2
      refine lv_aload_n hx hb dX10_legs_11 rfl (lv_at hl 0 rfl) ?_
      refine va_get (D := D) (ci := 9) (v := .ref (hRo 99)) (C := RX10) (T := TX10) (N := 14) hx hb hts iX10 hown hK hP 0 (rwl o_Mn) rfl 2 (by decide) (htl _ (mB1 _ (List.mem_of_getElem? (i := 18) rfl))) (fun _ h9 => h9) rfl dX10_legs_12 ?_
      refine lv_iload_n hx hb dX10_legs_15 rfl (lv_at hl 2 rfl) ?_
      obtain ⟨o3, go3, hf⟩ := bd_s hf
      refine ro_Vi (As := [.int p2]) (rest := []) ⟨hx, hb, hml, hown, hts⟩ (c_X9_isStation l D K F hRo sRo p2 o3 go3) (cwV 1 hts (gcV_X9_isStation (mB26 _ (List.mem_of_getElem? (i := 7) rfl))) rfl rfl rfl hdV_X9_isStation ⟨Nat.le_of_ble_eq_true rfl, Nat.le_of_ble_eq_true rfl⟩) hK hP hS (va_PL (cs := [wMn K hMn rMn0 (hRo 99) rMn3 rMn4 rMn5 rMn6 rMn7 rMn8 rMn9 rMn10 sMn, wRo K hRo sRo]) (cc := [wRo K hRo sRo]) hP (fl2 _ _) [1] rfl (fl1 _)) (va_recv hK hP (ci := 8) (q0 := (1 + 0)) rfl (rwr ln_Mn o_Ro)) rfl hl.1 rfl (Nat.le_of_ble_eq_true rfl) dX10_legs_16 ⟨Nat.zero_le _, Nat.zero_le _⟩ (fun H locs hP hS => ?_)
      refine lv_if_eq (tgt := 27) hx hb dX10_legs_19 (by decide) (fun c4 => ?_) (fun c4 => ?_)
      · have hf := it_t hf c4
        exact w27 sMn H locs ls hf hP hD hS (lv_sub hl [0] rfl)
      · have hf := it_f hf c4
        refine lv_iload_n hx hb dX10_legs_22 rfl (lv_at hl 2 rfl) ?_
        refine lv_iload_n hx hb dX10_legs_23 rfl (lv_at hl 1 rfl) ?_
        refine lv_icmp_gt (tgt := 33) hx hb dX10_legs_24 (by decide) (fun c5 => ?_) (fun c5 => ?_)
        · have hf := it_t hf c5
          refine lv_aload_n hx hb dX10_legs_33 rfl (lv_at hl 0 rfl) ?_
          refine lv_aload_n hx hb dX10_legs_34 rfl (lv_at hl 0 rfl) ?_
          refine va_get (D := D) (ci := 9) (v := .ref (hRo 99)) (C := RX10) (T := TX10) (N := 14) hx hb hts iX10 hown hK hP 0 (rwl o_Mn) rfl 2 (by decide) (htl _ (mB1 _ (List.mem_of_getElem? (i := 18) rfl))) (fun _ h9 => h9) rfl dX10_legs_35 ?_
          refine lv_iload_n hx hb dX10_legs_38 rfl (lv_at hl 1 rfl) ?_
          refine lv_iload_n hx hb dX10_legs_39 rfl (lv_at hl 2 rfl) ?_
          obtain ⟨o6, go6, hf⟩ := bd_s hf
          refine ro_Vi (As := [.int p1, .int p2]) (rest := [.ref (hMn 99)]) ⟨hx, hb, hml, hown, hts⟩ (c_X9_legsPints l D K F hRo sRo p1 p2 o6 go6) (cwV 2 hts (gcV_X9_legsPints (mB27 _ (List.mem_of_getElem? (i := 3) rfl))) rfl rfl rfl hdV_X9_legsPints ⟨Nat.le_of_ble_eq_true rfl, Nat.le_of_ble_eq_true rfl⟩) hK hP hS (va_PL (cs := [wMn K hMn rMn0 (hRo 99) rMn3 rMn4 rMn5 rMn6 rMn7 rMn8 rMn9 rMn10 sMn, wRo K hRo sRo]) (cc := [wRo K hRo sRo]) hP (fl2 _ _) [1] rfl (fl1 _)) (va_recv hK hP (ci := 8) (q0 := (1 + 0)) rfl (rwr ln_Mn o_Ro)) rfl hl.1 rfl (Nat.le_of_ble_eq_true rfl) dX10_legs_40 ⟨Nat.zero_le _, Nat.zero_le _⟩ (fun H locs hP hS => ?_)
          obtain ⟨o7, go7, hf⟩ := bd_s hf
          refine rk_Vi (wn := wMn K hMn rMn0 (hRo 99) rMn3 rMn4 rMn5 rMn6 rMn7 rMn8 rMn9 rMn10 o7.2 ++ wRo K hRo sRo) [wMn K hMn rMn0 (hRo 99) rMn3 rMn4 rMn5 rMn6 rMn7 rMn8 rMn9 rMn10 sMn, wRo K hRo sRo] [wMn K hMn rMn0 (hRo 99) rMn3 rMn4 rMn5 rMn6 rMn7 rMn8 rMn9 rMn10 sMn] [wMn K hMn rMn0 (hRo 99) rMn3 rMn4 rMn5 rMn6 rMn7 rMn8 rMn9 rMn10 o7.2] [wMn K hMn rMn0 (hRo 99) rMn3 rMn4 rMn5 rMn6 rMn7 rMn8 rMn9 rMn10 o7.2, wRo K hRo sRo] (As := [.int o6]) (rest := []) ⟨hx, hb, hml, hown, hts⟩ (c_X10_accept l D K F hMn rMn0 (hRo 99) rMn3 rMn4 rMn5 rMn6 rMn7 rMn8 rMn9 rMn10 H.size sMn o6 o7 go7) (cwV 1 hts (gcV_X10_accept (mB17 _ (List.mem_of_getElem? (i := 14) rfl))) rfl rfl rfl hdV_X10_accept ⟨Nat.le_of_ble_eq_true rfl, Nat.le_of_ble_eq_true rfl⟩) hK hP hD hS hA [0] (fl2 _ _) rfl (by decide) (fl1 _) (fl1 _) rfl rfl (fl2 _ _) (va_recv hK hP (ci := 9) (q0 := 0) rfl (rwl o_Mn)) rfl hl.1 rfl (Nat.le_of_ble_eq_true rfl) dX10_legs_43 ⟨Nat.zero_le _, Nat.zero_le _⟩ (fun H locs hP hD hS => ?_)
          have hP : va_P D vwCl (wMn K hMn rMn0 (hRo 99) rMn3 rMn4 rMn5 rMn6 rMn7 rMn8 rMn9 rMn10 o7.2 ++ wRo K hRo sRo) H := hP
          have hD : va_D A (wMn K hMn rMn0 (hRo 99) rMn3 rMn4 rMn5 rMn6 rMn7 rMn8 rMn9 rMn10 o7.2 ++ wRo K hRo sRo) := hD
          have e9 := Option.some.inj hf
          rw [hQ]
          exact W.iret (v := o7.1) hx hb hr (fun t ht hW => ⟨⟨o7.1, o7.2, rfl, ⟨pr1 e9, pr2 e9⟩, ⟨by rw [ht]; exact hP, va_K.moved hW.alike hK, hD⟩⟩, hS.F ht⟩) hS.2.2 dX10_legs_46
        · have hf := it_f hf c5
          exact w27 sMn H locs ls hf hP hD hS (lv_sub hl [0] rfl)
  rw [hHe] at hgo
  exact hgo

theorem gcV_X9_isLevel {T0 : Cond} {own : String} {i : Nat} (h : Cond.methodLink own i yX9_isLevel ∈ wsL_law) : GoodIn (T0 :: wsL_law) (wsV own i RX9 yX9_isLevel wz_X9_isLevel) := gV h (mB28 _ (List.mem_of_getElem? (i := 0) rfl)) (mB28 _ (List.mem_of_getElem? (i := 1) rfl)) (mB1 _ (List.mem_of_getElem? (i := 17) rfl)) (mB28 _ (List.mem_of_getElem? (i := 2) rfl))
theorem hdV_X9_isLevel : yX9_isLevel.cls = RX9 ∧ yX9_isLevel.cls ≠ "java/lang/invoke/MethodHandle" ∧ yX9_isLevel.cls ≠ "java/lang/invoke/VarHandle" ∧ (parseMethodDescriptor yX9_isLevel.desc).map (fun d => d.parameters.length) = some 1 := by decide +kernel
theorem gcV_X9_lastReached {T0 : Cond} {own : String} {i : Nat} (h : Cond.methodLink own i yX9_lastReached ∈ wsL_law) : GoodIn (T0 :: wsL_law) (wsV own i RX9 yX9_lastReached wz_X9_lastReached) := gV h (mB28 _ (List.mem_of_getElem? (i := 4) rfl)) (mB28 _ (List.mem_of_getElem? (i := 5) rfl)) (mB1 _ (List.mem_of_getElem? (i := 17) rfl)) (mB28 _ (List.mem_of_getElem? (i := 6) rfl))
theorem hdV_X9_lastReached : yX9_lastReached.cls = RX9 ∧ yX9_lastReached.cls ≠ "java/lang/invoke/MethodHandle" ∧ yX9_lastReached.cls ≠ "java/lang/invoke/VarHandle" ∧ (parseMethodDescriptor yX9_lastReached.desc).map (fun d => d.parameters.length) = some 2 := by decide +kernel
def wz_X10_lasts : List Cond := .code yX10_lasts cX10_lasts 3 (some .int) :: wsL_law
abbrev r_X10_lasts : Room := { frames := 1, cells := 0, slots := 0, locals := 24 }
set_option maxHeartbeats 4000000 in
set_option maxRecDepth 100000 in
theorem c_X10_lasts (l : Launch) (D : va_G) (K : Nat → ClassId) (F : Nat) (hMn : Nat → Nat) (rMn0 : Nat) (rMn3 : Nat) (rMn4 : Nat) (rMn5 : Nat) (rMn6 : Nat) (rMn7 : Nat) (rMn8 : Nat) (rMn9 : Nat) (rMn10 : Nat) (hRo : Nat → Nat) (sz : Nat) (sMn : MS) (sRo : MS) (p1 : Int32) (p2 : Int32) (res : Int32 × MS) (hf : f_X10_lasts F sRo p1 p2 sMn = some res) : Met l yX10_lasts wz_X10_lasts r_X10_lasts (va_Pc [.ref (hMn 99), .int p1, .int p2] (PW D K (wMn K hMn rMn0 (hRo 99) rMn3 rMn4 rMn5 rMn6 rMn7 rMn8 rMn9 rMn10 sMn ++ wRo K hRo sRo) sz)) (va_Qi (fun r u => r = res.1 ∧ u = res.2) (fun u t => BW D K (va_A (wMn K hMn rMn0 (hRo 99) rMn3 rMn4 rMn5 rMn6 rMn7 rMn8 rMn9 rMn10 sMn ++ wRo K hRo sRo) sz) (wMn K hMn rMn0 (hRo 99) rMn3 rMn4 rMn5 rMn6 rMn7 rMn8 rMn9 rMn10 u ++ wRo K hRo sRo) t) (va_A (wMn K hMn rMn0 (hRo 99) rMn3 rMn4 rMn5 rMn6 rMn7 rMn8 rMn9 rMn10 sMn ++ wRo K hRo sRo) sz)) 0 0 (va_A (wMn K hMn rMn0 (hRo 99) rMn3 rMn4 rMn5 rMn6 rMn7 rMn8 rMn9 rMn10 sMn ++ wRo K hRo sRo) sz) := by
  refine Met.ofW (cc := cX10_lasts) (maxL := 3) (ret := (some .int)) (by decide) rfl ?_
  intro p e s m args below meth c s₁ B hml hv
  obtain ⟨hargs, hsz, hP, hK, hD0⟩ := hv
  have hx := B.exec
  have hb := B.bytes
  have hr := B.returns
  have hts := atoms_spec (ws := wz_X10_lasts) B.pre
  have htl : ∀ w ∈ wsL_law, w.before args s = true := fun w h => hts w (List.mem_cons_of_mem _ h)
  have hown : s.vm.findClass RX10 = some m.cls := findClass_of_methodNamed B.named
  have hlocks := B.notSynchronized
  subst hsz
  have hD := hD0.self (sz := s.heap.size)
  generalize hAe : va_A (wMn K hMn rMn0 (hRo 99) rMn3 rMn4 rMn5 rMn6 rMn7 rMn8 rMn9 rMn10 sMn ++ wRo K hRo sRo) s.heap.size = A at hD ⊢
  have hA : ∀ q : Nat, s.heap.size ≤ q → A q := fun q h => by rw [← hAe]; exact Or.inr h
  have hS : va_S A s.heap s.heap [] := va_S.rf
  have iX10 : ∀ w ∈ wsX100, w ∈ wz_X10_lasts := fun w h => List.mem_cons_of_mem _ (inlX10 w h)
  suffices hgo : ∀ Q : State → Prop, Q = MQ below (va_Qi (fun r u => r = res.1 ∧ u = res.2) (fun u t => BW D K A (wMn K hMn rMn0 (hRo 99) rMn3 rMn4 rMn5 rMn6 rMn7 rMn8 rMn9 rMn10 u ++ wRo K hRo sRo) t) A) args s 0 0 A → W p l e (headSpec wz_X10_lasts r_X10_lasts).room s m args below meth c s.heap [] 0 0 Q (entryFrame m args 3) from hgo _ rfl
  intro Q hQ
  have hen : entryFrame m args 3 = entryFrame m (([.ref (hMn 99), .int p1, .int p2] : List Value).toArray) 3 := by rw [hargs]
  have hl := lv_entry ([.ref (hMn 99), .int p1, .int p2]) (n := 3) (Nat.le_of_ble_eq_true rfl)
  rw [hen, lg_entry_eq]
  generalize (lg_sl ([.ref (hMn 99), .int p1, .int p2]) ++ List.replicate (3 - (lg_sl ([.ref (hMn 99), .int p1, .int p2])).length) Slot.unset).toArray = ls at hl ⊢
  have hl : lv_has ls 3 [(0, .ref (hMn 99)), (1, .int p1), (2, .int p2)] := hl
  unfold f_X10_lasts at hf
  obtain ⟨H, hHe⟩ : ∃ z, z = s.heap := ⟨_, rfl⟩
  obtain ⟨locs, hLe⟩ : ∃ z : List Loc, z = [] := ⟨_, rfl⟩
  rw [← hLe]
  have hS : va_S A s.heap H locs := by rw [hHe, hLe]; exact hS
  have hP : va_P D vwCl (wMn K hMn rMn0 (hRo 99) rMn3 rMn4 rMn5 rMn6 rMn7 rMn8 rMn9 rMn10 sMn ++ wRo K hRo sRo) H := by rw [hHe]; exact hP
  have hgo : W p l e (headSpec wz_X10_lasts r_X10_lasts).room s m args below meth c H locs 0 0 Q (F0 m 0 ls []) := by
    refine lv_aload_n hx hb dX10_lasts_0 rfl (lv_at hl 0 rfl) ?_
    refine va_get (D := D) (ci := 9) (v := .ref (hRo 99)) (C := RX10) (T := TX10) (N := 14) hx hb hts iX10 hown hK hP 0 (rwl o_Mn) rfl 2 (by decide) (htl _ (mB1 _ (List.mem_of_getElem? (i := 18) rfl))) (fun _ h9 => h9) rfl dX10_lasts_1 ?_
    refine lv_iload_n hx hb dX10_lasts_4 rfl (lv_at hl 1 rfl) ?_
    obtain ⟨o1, go1, hf⟩ := bd_s hf
    refine ro_Vi (As := [.int p1]) (rest := []) ⟨hx, hb, hml, hown, hts⟩ (c_X9_isStation l D K F hRo sRo p1 o1 go1) (cwV 1 hts (gcV_X9_isStation (mB26 _ (List.mem_of_getElem? (i := 7) rfl))) rfl rfl rfl hdV_X9_isStation ⟨Nat.le_of_ble_eq_true rfl, Nat.le_of_ble_eq_true rfl⟩) hK hP hS (va_PL (cs := [wMn K hMn rMn0 (hRo 99) rMn3 rMn4 rMn5 rMn6 rMn7 rMn8 rMn9 rMn10 sMn, wRo K hRo sRo]) (cc := [wRo K hRo sRo]) hP (fl2 _ _) [1] rfl (fl1 _)) (va_recv hK hP (ci := 8) (q0 := (1 + 0)) rfl (rwr ln_Mn o_Ro)) rfl hl.1 rfl (Nat.le_of_ble_eq_true rfl) dX10_lasts_5 ⟨Nat.zero_le _, Nat.zero_le _⟩ (fun H locs hP hS => ?_)
    refine lv_if_ne (tgt := 17) hx hb dX10_lasts_8 (by decide) (fun c2 => ?_) (fun c2 => ?_)
    · have hf := it_f hf c2
      refine lv_aload_n hx hb dX10_lasts_17 rfl (lv_at hl 0 rfl) ?_
      refine va_get (D := D) (ci := 9) (v := .ref (hRo 99)) (C := RX10) (T := TX10) (N := 14) hx hb hts iX10 hown hK hP 0 (rwl o_Mn) rfl 2 (by decide) (htl _ (mB1 _ (List.mem_of_getElem? (i := 18) rfl))) (fun _ h9 => h9) rfl dX10_lasts_18 ?_
      refine lv_iload_n hx hb dX10_lasts_21 rfl (lv_at hl 2 rfl) ?_
      obtain ⟨o3, go3, hf⟩ := bd_s hf
      refine ro_Vi (As := [.int p2]) (rest := []) ⟨hx, hb, hml, hown, hts⟩ (c_X9_isLevel l D K F hRo sRo p2 o3 go3) (cwV 1 hts (gcV_X9_isLevel (mB27 _ (List.mem_of_getElem? (i := 23) rfl))) rfl rfl rfl hdV_X9_isLevel ⟨Nat.le_of_ble_eq_true rfl, Nat.le_of_ble_eq_true rfl⟩) hK hP hS (va_PL (cs := [wMn K hMn rMn0 (hRo 99) rMn3 rMn4 rMn5 rMn6 rMn7 rMn8 rMn9 rMn10 sMn, wRo K hRo sRo]) (cc := [wRo K hRo sRo]) hP (fl2 _ _) [1] rfl (fl1 _)) (va_recv hK hP (ci := 8) (q0 := (1 + 0)) rfl (rwr ln_Mn o_Ro)) rfl hl.1 rfl (Nat.le_of_ble_eq_true rfl) dX10_lasts_22 ⟨Nat.zero_le _, Nat.zero_le _⟩ (fun H locs hP hS => ?_)
      refine lv_if_ne (tgt := 34) hx hb dX10_lasts_25 (by decide) (fun c4 => ?_) (fun c4 => ?_)
      · have hf := it_f hf c4
        refine lv_aload_n hx hb dX10_lasts_34 rfl (lv_at hl 0 rfl) ?_
        refine lv_aload_n hx hb dX10_lasts_35 rfl (lv_at hl 0 rfl) ?_
        refine va_get (D := D) (ci := 9) (v := .ref (hRo 99)) (C := RX10) (T := TX10) (N := 14) hx hb hts iX10 hown hK hP 0 (rwl o_Mn) rfl 2 (by decide) (htl _ (mB1 _ (List.mem_of_getElem? (i := 18) rfl))) (fun _ h9 => h9) rfl dX10_lasts_36 ?_
        refine lv_iload_n hx hb dX10_lasts_39 rfl (lv_at hl 1 rfl) ?_
        refine lv_iload_n hx hb dX10_lasts_40 rfl (lv_at hl 2 rfl) ?_
        obtain ⟨o5, go5, hf⟩ := bd_s hf
        refine ro_Vi (As := [.int p1, .int p2]) (rest := [.ref (hMn 99)]) ⟨hx, hb, hml, hown, hts⟩ (c_X9_lastReached l D K F hRo sRo p1 p2 o5 go5) (cwV 2 hts (gcV_X9_lastReached (mB28 _ (List.mem_of_getElem? (i := 3) rfl))) rfl rfl rfl hdV_X9_lastReached ⟨Nat.le_of_ble_eq_true rfl, Nat.le_of_ble_eq_true rfl⟩) hK hP hS (va_PL (cs := [wMn K hMn rMn0 (hRo 99) rMn3 rMn4 rMn5 rMn6 rMn7 rMn8 rMn9 rMn10 sMn, wRo K hRo sRo]) (cc := [wRo K hRo sRo]) hP (fl2 _ _) [1] rfl (fl1 _)) (va_recv hK hP (ci := 8) (q0 := (1 + 0)) rfl (rwr ln_Mn o_Ro)) rfl hl.1 rfl (Nat.le_of_ble_eq_true rfl) dX10_lasts_41 ⟨Nat.zero_le _, Nat.zero_le _⟩ (fun H locs hP hS => ?_)
        obtain ⟨o6, go6, hf⟩ := bd_s hf
        refine rk_Vi (wn := wMn K hMn rMn0 (hRo 99) rMn3 rMn4 rMn5 rMn6 rMn7 rMn8 rMn9 rMn10 o6.2 ++ wRo K hRo sRo) [wMn K hMn rMn0 (hRo 99) rMn3 rMn4 rMn5 rMn6 rMn7 rMn8 rMn9 rMn10 sMn, wRo K hRo sRo] [wMn K hMn rMn0 (hRo 99) rMn3 rMn4 rMn5 rMn6 rMn7 rMn8 rMn9 rMn10 sMn] [wMn K hMn rMn0 (hRo 99) rMn3 rMn4 rMn5 rMn6 rMn7 rMn8 rMn9 rMn10 o6.2] [wMn K hMn rMn0 (hRo 99) rMn3 rMn4 rMn5 rMn6 rMn7 rMn8 rMn9 rMn10 o6.2, wRo K hRo sRo] (As := [.int o5]) (rest := []) ⟨hx, hb, hml, hown, hts⟩ (c_X10_accept l D K F hMn rMn0 (hRo 99) rMn3 rMn4 rMn5 rMn6 rMn7 rMn8 rMn9 rMn10 H.size sMn o5 o6 go6) (cwV 1 hts (gcV_X10_accept (mB17 _ (List.mem_of_getElem? (i := 14) rfl))) rfl rfl rfl hdV_X10_accept ⟨Nat.le_of_ble_eq_true rfl, Nat.le_of_ble_eq_true rfl⟩) hK hP hD hS hA [0] (fl2 _ _) rfl (by decide) (fl1 _) (fl1 _) rfl rfl (fl2 _ _) (va_recv hK hP (ci := 9) (q0 := 0) rfl (rwl o_Mn)) rfl hl.1 rfl (Nat.le_of_ble_eq_true rfl) dX10_lasts_44 ⟨Nat.zero_le _, Nat.zero_le _⟩ (fun H locs hP hD hS => ?_)
        have hP : va_P D vwCl (wMn K hMn rMn0 (hRo 99) rMn3 rMn4 rMn5 rMn6 rMn7 rMn8 rMn9 rMn10 o6.2 ++ wRo K hRo sRo) H := hP
        have hD : va_D A (wMn K hMn rMn0 (hRo 99) rMn3 rMn4 rMn5 rMn6 rMn7 rMn8 rMn9 rMn10 o6.2 ++ wRo K hRo sRo) := hD
        have e9 := Option.some.inj hf
        rw [hQ]
        exact W.iret (v := o6.1) hx hb hr (fun t ht hW => ⟨⟨o6.1, o6.2, rfl, ⟨pr1 e9, pr2 e9⟩, ⟨by rw [ht]; exact hP, va_K.moved hW.alike hK, hD⟩⟩, hS.F ht⟩) hS.2.2 dX10_lasts_47
      · have hf := it_t hf c4
        refine lv_aload_n hx hb dX10_lasts_28 rfl (lv_at hl 0 rfl) ?_
        refine lv_iconst (v := (2 : Int32)) hx hb dX10_lasts_29 (by decide) ?_
        obtain ⟨o7, go7, hf⟩ := bd_s hf
        refine rk_Vi (wn := wMn K hMn rMn0 (hRo 99) rMn3 rMn4 rMn5 rMn6 rMn7 rMn8 rMn9 rMn10 o7.2 ++ wRo K hRo sRo) [wMn K hMn rMn0 (hRo 99) rMn3 rMn4 rMn5 rMn6 rMn7 rMn8 rMn9 rMn10 sMn, wRo K hRo sRo] [wMn K hMn rMn0 (hRo 99) rMn3 rMn4 rMn5 rMn6 rMn7 rMn8 rMn9 rMn10 sMn] [wMn K hMn rMn0 (hRo 99) rMn3 rMn4 rMn5 rMn6 rMn7 rMn8 rMn9 rMn10 o7.2] [wMn K hMn rMn0 (hRo 99) rMn3 rMn4 rMn5 rMn6 rMn7 rMn8 rMn9 rMn10 o7.2, wRo K hRo sRo] (As := [.int (2 : Int32)]) (rest := []) ⟨hx, hb, hml, hown, hts⟩ (c_X10_refuse l D K F hMn rMn0 (hRo 99) rMn3 rMn4 rMn5 rMn6 rMn7 rMn8 rMn9 rMn10 H.size sMn (2 : Int32) o7 go7) (cwV 1 hts (gcV_X10_refuse (mB7 _ (List.mem_of_getElem? (i := 18) rfl))) rfl rfl rfl hdV_X10_refuse ⟨Nat.le_of_ble_eq_true rfl, Nat.le_of_ble_eq_true rfl⟩) hK hP hD hS hA [0] (fl2 _ _) rfl (by decide) (fl1 _) (fl1 _) rfl rfl (fl2 _ _) (va_recv hK hP (ci := 9) (q0 := 0) rfl (rwl o_Mn)) rfl hl.1 rfl (Nat.le_of_ble_eq_true rfl) dX10_lasts_30 ⟨Nat.zero_le _, Nat.zero_le _⟩ (fun H locs hP hD hS => ?_)
        have hP : va_P D vwCl (wMn K hMn rMn0 (hRo 99) rMn3 rMn4 rMn5 rMn6 rMn7 rMn8 rMn9 rMn10 o7.2 ++ wRo K hRo sRo) H := hP
        have hD : va_D A (wMn K hMn rMn0 (hRo 99) rMn3 rMn4 rMn5 rMn6 rMn7 rMn8 rMn9 rMn10 o7.2 ++ wRo K hRo sRo) := hD
        have e9 := Option.some.inj hf
        rw [hQ]
        exact W.iret (v := o7.1) hx hb hr (fun t ht hW => ⟨⟨o7.1, o7.2, rfl, ⟨pr1 e9, pr2 e9⟩, ⟨by rw [ht]; exact hP, va_K.moved hW.alike hK, hD⟩⟩, hS.F ht⟩) hS.2.2 dX10_lasts_33
    · have hf := it_t hf c2
      refine lv_aload_n hx hb dX10_lasts_11 rfl (lv_at hl 0 rfl) ?_
      refine lv_iconst (v := (1 : Int32)) hx hb dX10_lasts_12 (by decide) ?_
      obtain ⟨o8, go8, hf⟩ := bd_s hf
      refine rk_Vi (wn := wMn K hMn rMn0 (hRo 99) rMn3 rMn4 rMn5 rMn6 rMn7 rMn8 rMn9 rMn10 o8.2 ++ wRo K hRo sRo) [wMn K hMn rMn0 (hRo 99) rMn3 rMn4 rMn5 rMn6 rMn7 rMn8 rMn9 rMn10 sMn, wRo K hRo sRo] [wMn K hMn rMn0 (hRo 99) rMn3 rMn4 rMn5 rMn6 rMn7 rMn8 rMn9 rMn10 sMn] [wMn K hMn rMn0 (hRo 99) rMn3 rMn4 rMn5 rMn6 rMn7 rMn8 rMn9 rMn10 o8.2] [wMn K hMn rMn0 (hRo 99) rMn3 rMn4 rMn5 rMn6 rMn7 rMn8 rMn9 rMn10 o8.2, wRo K hRo sRo] (As := [.int (1 : Int32)]) (rest := []) ⟨hx, hb, hml, hown, hts⟩ (c_X10_refuse l D K F hMn rMn0 (hRo 99) rMn3 rMn4 rMn5 rMn6 rMn7 rMn8 rMn9 rMn10 H.size sMn (1 : Int32) o8 go8) (cwV 1 hts (gcV_X10_refuse (mB7 _ (List.mem_of_getElem? (i := 18) rfl))) rfl rfl rfl hdV_X10_refuse ⟨Nat.le_of_ble_eq_true rfl, Nat.le_of_ble_eq_true rfl⟩) hK hP hD hS hA [0] (fl2 _ _) rfl (by decide) (fl1 _) (fl1 _) rfl rfl (fl2 _ _) (va_recv hK hP (ci := 9) (q0 := 0) rfl (rwl o_Mn)) rfl hl.1 rfl (Nat.le_of_ble_eq_true rfl) dX10_lasts_13 ⟨Nat.zero_le _, Nat.zero_le _⟩ (fun H locs hP hD hS => ?_)
      have hP : va_P D vwCl (wMn K hMn rMn0 (hRo 99) rMn3 rMn4 rMn5 rMn6 rMn7 rMn8 rMn9 rMn10 o8.2 ++ wRo K hRo sRo) H := hP
      have hD : va_D A (wMn K hMn rMn0 (hRo 99) rMn3 rMn4 rMn5 rMn6 rMn7 rMn8 rMn9 rMn10 o8.2 ++ wRo K hRo sRo) := hD
      have e9 := Option.some.inj hf
      rw [hQ]
      exact W.iret (v := o8.1) hx hb hr (fun t ht hW => ⟨⟨o8.1, o8.2, rfl, ⟨pr1 e9, pr2 e9⟩, ⟨by rw [ht]; exact hP, va_K.moved hW.alike hK, hD⟩⟩, hS.F ht⟩) hS.2.2 dX10_lasts_16
  rw [hHe] at hgo
  exact hgo

def wz_X10_deny : List Cond := .code yX10_deny cX10_deny 2 (some .boolean) :: wsL_law
abbrev r_X10_deny : Room := { frames := 0, cells := 0, slots := 0, locals := 0 }
set_option maxHeartbeats 4000000 in
set_option maxRecDepth 100000 in
theorem c_X10_deny (l : Launch) (D : va_G) (K : Nat → ClassId) (F : Nat) (hMn : Nat → Nat) (rMn0 : Nat) (rMn2 : Nat) (rMn3 : Nat) (rMn4 : Nat) (rMn5 : Nat) (rMn6 : Nat) (rMn7 : Nat) (rMn8 : Nat) (rMn9 : Nat) (rMn10 : Nat) (sz : Nat) (sMn : MS) (p1 : Int32) (res : Int32 × MS) (hf : f_X10_deny F p1 sMn = some res) : Met l yX10_deny wz_X10_deny r_X10_deny (va_Pc [.ref (hMn 99), .int p1] (PW D K (wMn K hMn rMn0 rMn2 rMn3 rMn4 rMn5 rMn6 rMn7 rMn8 rMn9 rMn10 sMn) sz)) (va_Qi (fun r u => r = res.1 ∧ u = res.2) (fun u t => BW D K (va_A (wMn K hMn rMn0 rMn2 rMn3 rMn4 rMn5 rMn6 rMn7 rMn8 rMn9 rMn10 sMn) sz) (wMn K hMn rMn0 rMn2 rMn3 rMn4 rMn5 rMn6 rMn7 rMn8 rMn9 rMn10 u) t) (va_A (wMn K hMn rMn0 rMn2 rMn3 rMn4 rMn5 rMn6 rMn7 rMn8 rMn9 rMn10 sMn) sz)) 0 0 (va_A (wMn K hMn rMn0 rMn2 rMn3 rMn4 rMn5 rMn6 rMn7 rMn8 rMn9 rMn10 sMn) sz) := by
  refine Met.ofW (cc := cX10_deny) (maxL := 2) (ret := (some .boolean)) (by decide) rfl ?_
  intro p e s m args below meth c s₁ B hml hv
  obtain ⟨hargs, hsz, hP, hK, hD0⟩ := hv
  have hx := B.exec
  have hb := B.bytes
  have hr := B.returns
  have hts := atoms_spec (ws := wz_X10_deny) B.pre
  have htl : ∀ w ∈ wsL_law, w.before args s = true := fun w h => hts w (List.mem_cons_of_mem _ h)
  have hown : s.vm.findClass RX10 = some m.cls := findClass_of_methodNamed B.named
  have hlocks := B.notSynchronized
  subst hsz
  have hD := hD0.self (sz := s.heap.size)
  generalize hAe : va_A (wMn K hMn rMn0 rMn2 rMn3 rMn4 rMn5 rMn6 rMn7 rMn8 rMn9 rMn10 sMn) s.heap.size = A at hD ⊢
  have hA : ∀ q : Nat, s.heap.size ≤ q → A q := fun q h => by rw [← hAe]; exact Or.inr h
  have hS : va_S A s.heap s.heap [] := va_S.rf
  have iX10 : ∀ w ∈ wsX100, w ∈ wz_X10_deny := fun w h => List.mem_cons_of_mem _ (inlX10 w h)
  suffices hgo : ∀ Q : State → Prop, Q = MQ below (va_Qi (fun r u => r = res.1 ∧ u = res.2) (fun u t => BW D K A (wMn K hMn rMn0 rMn2 rMn3 rMn4 rMn5 rMn6 rMn7 rMn8 rMn9 rMn10 u) t) A) args s 0 0 A → W p l e (headSpec wz_X10_deny r_X10_deny).room s m args below meth c s.heap [] 0 0 Q (entryFrame m args 2) from hgo _ rfl
  intro Q hQ
  have hen : entryFrame m args 2 = entryFrame m (([.ref (hMn 99), .int p1] : List Value).toArray) 2 := by rw [hargs]
  have hl := lv_entry ([.ref (hMn 99), .int p1]) (n := 2) (Nat.le_of_ble_eq_true rfl)
  rw [hen, lg_entry_eq]
  generalize (lg_sl ([.ref (hMn 99), .int p1]) ++ List.replicate (2 - (lg_sl ([.ref (hMn 99), .int p1])).length) Slot.unset).toArray = ls at hl ⊢
  have hl : lv_has ls 2 [(0, .ref (hMn 99)), (1, .int p1)] := hl
  unfold f_X10_deny at hf
  obtain ⟨H, hHe⟩ : ∃ z, z = s.heap := ⟨_, rfl⟩
  obtain ⟨locs, hLe⟩ : ∃ z : List Loc, z = [] := ⟨_, rfl⟩
  rw [← hLe]
  have hS : va_S A s.heap H locs := by rw [hHe, hLe]; exact hS
  have hP : va_P D vwCl (wMn K hMn rMn0 rMn2 rMn3 rMn4 rMn5 rMn6 rMn7 rMn8 rMn9 rMn10 sMn) H := by rw [hHe]; exact hP
  have hgo : W p l e (headSpec wz_X10_deny r_X10_deny).room s m args below meth c H locs 0 0 Q (F0 m 0 ls []) := by
    refine lv_aload_n hx hb dX10_deny_0 rfl (lv_at hl 0 rfl) ?_
    refine lv_iload_n hx hb dX10_deny_1 rfl (lv_at hl 1 rfl) ?_
    refine va_put (D := D) (ci := 9) (v := .int p1) (ty := .int) (C := RX10) (T := TX10) (N := 14) hx hb hts iX10 tyX10 tyX10_ok nmX10 hown hK hP hD hS 0 o_Mn rfl 11 (by decide) (htl _ (mB7 _ (List.mem_of_getElem? (i := 22) rfl))) (fun _ h9 => h9) rfl (by decide +kernel) rfl rfl (Nat.le_of_ble_eq_true rfl) dX10_deny_2 (fun H locs hP hD hS => ?_)
    have hP := cvP si_Mn_11 hP
    have hD := cvD si_Mn_11 hD
    obtain ⟨s1, es1⟩ : ∃ z, z = sI sMn 11 p1 := ⟨_, rfl⟩
    have hP : va_P D vwCl (wMn K hMn rMn0 rMn2 rMn3 rMn4 rMn5 rMn6 rMn7 rMn8 rMn9 rMn10 s1) H := by rw [es1]; exact hP
    have hD : va_D A (wMn K hMn rMn0 rMn2 rMn3 rMn4 rMn5 rMn6 rMn7 rMn8 rMn9 rMn10 s1) := by rw [es1]; exact hD
    have hf := lz_s hf s1 es1
    refine lv_iconst (v := (0 : Int32)) hx hb dX10_deny_5 (by decide) ?_
    have e9 := Option.some.inj hf
    rw [hQ]
    exact W.zret (v := (0 : Int32)) hx hb hr rfl (fun t ht hW => ⟨⟨(0 : Int32), s1, rfl, ⟨pr1 e9, pr2 e9⟩, ⟨by rw [ht]; exact hP, va_K.moved hW.alike hK, hD⟩⟩, hS.F ht⟩) hS.2.2 dX10_deny_6
  rw [hHe] at hgo
  exact hgo

def wz_X10_allow : List Cond := .code yX10_allow cX10_allow 1 (some .boolean) :: wsL_law
abbrev r_X10_allow : Room := { frames := 0, cells := 0, slots := 0, locals := 0 }
set_option maxHeartbeats 4000000 in
set_option maxRecDepth 100000 in
theorem c_X10_allow (l : Launch) (D : va_G) (K : Nat → ClassId) (F : Nat) (hMn : Nat → Nat) (rMn0 : Nat) (rMn2 : Nat) (rMn3 : Nat) (rMn4 : Nat) (rMn5 : Nat) (rMn6 : Nat) (rMn7 : Nat) (rMn8 : Nat) (rMn9 : Nat) (rMn10 : Nat) (sz : Nat) (sMn : MS) (res : Int32 × MS) (hf : f_X10_allow F sMn = some res) : Met l yX10_allow wz_X10_allow r_X10_allow (va_Pc [.ref (hMn 99)] (PW D K (wMn K hMn rMn0 rMn2 rMn3 rMn4 rMn5 rMn6 rMn7 rMn8 rMn9 rMn10 sMn) sz)) (va_Qi (fun r u => r = res.1 ∧ u = res.2) (fun u t => BW D K (va_A (wMn K hMn rMn0 rMn2 rMn3 rMn4 rMn5 rMn6 rMn7 rMn8 rMn9 rMn10 sMn) sz) (wMn K hMn rMn0 rMn2 rMn3 rMn4 rMn5 rMn6 rMn7 rMn8 rMn9 rMn10 u) t) (va_A (wMn K hMn rMn0 rMn2 rMn3 rMn4 rMn5 rMn6 rMn7 rMn8 rMn9 rMn10 sMn) sz)) 0 0 (va_A (wMn K hMn rMn0 rMn2 rMn3 rMn4 rMn5 rMn6 rMn7 rMn8 rMn9 rMn10 sMn) sz) := by
  refine Met.ofW (cc := cX10_allow) (maxL := 1) (ret := (some .boolean)) (by decide) rfl ?_
  intro p e s m args below meth c s₁ B hml hv
  obtain ⟨hargs, hsz, hP, hK, hD0⟩ := hv
  have hx := B.exec
  have hb := B.bytes
  have hr := B.returns
  have hts := atoms_spec (ws := wz_X10_allow) B.pre
  have htl : ∀ w ∈ wsL_law, w.before args s = true := fun w h => hts w (List.mem_cons_of_mem _ h)
  have hown : s.vm.findClass RX10 = some m.cls := findClass_of_methodNamed B.named
  have hlocks := B.notSynchronized
  subst hsz
  have hD := hD0.self (sz := s.heap.size)
  generalize hAe : va_A (wMn K hMn rMn0 rMn2 rMn3 rMn4 rMn5 rMn6 rMn7 rMn8 rMn9 rMn10 sMn) s.heap.size = A at hD ⊢
  have hA : ∀ q : Nat, s.heap.size ≤ q → A q := fun q h => by rw [← hAe]; exact Or.inr h
  have hS : va_S A s.heap s.heap [] := va_S.rf
  have iX10 : ∀ w ∈ wsX100, w ∈ wz_X10_allow := fun w h => List.mem_cons_of_mem _ (inlX10 w h)
  suffices hgo : ∀ Q : State → Prop, Q = MQ below (va_Qi (fun r u => r = res.1 ∧ u = res.2) (fun u t => BW D K A (wMn K hMn rMn0 rMn2 rMn3 rMn4 rMn5 rMn6 rMn7 rMn8 rMn9 rMn10 u) t) A) args s 0 0 A → W p l e (headSpec wz_X10_allow r_X10_allow).room s m args below meth c s.heap [] 0 0 Q (entryFrame m args 1) from hgo _ rfl
  intro Q hQ
  have hen : entryFrame m args 1 = entryFrame m (([.ref (hMn 99)] : List Value).toArray) 1 := by rw [hargs]
  have hl := lv_entry ([.ref (hMn 99)]) (n := 1) (Nat.le_of_ble_eq_true rfl)
  rw [hen, lg_entry_eq]
  generalize (lg_sl ([.ref (hMn 99)]) ++ List.replicate (1 - (lg_sl ([.ref (hMn 99)])).length) Slot.unset).toArray = ls at hl ⊢
  have hl : lv_has ls 1 [(0, .ref (hMn 99))] := hl
  unfold f_X10_allow at hf
  obtain ⟨H, hHe⟩ : ∃ z, z = s.heap := ⟨_, rfl⟩
  obtain ⟨locs, hLe⟩ : ∃ z : List Loc, z = [] := ⟨_, rfl⟩
  rw [← hLe]
  have hS : va_S A s.heap H locs := by rw [hHe, hLe]; exact hS
  have hP : va_P D vwCl (wMn K hMn rMn0 rMn2 rMn3 rMn4 rMn5 rMn6 rMn7 rMn8 rMn9 rMn10 sMn) H := by rw [hHe]; exact hP
  have hgo : W p l e (headSpec wz_X10_allow r_X10_allow).room s m args below meth c H locs 0 0 Q (F0 m 0 ls []) := by
    refine lv_aload_n hx hb dX10_allow_0 rfl (lv_at hl 0 rfl) ?_
    refine lv_iconst (v := (0 : Int32)) hx hb dX10_allow_1 (by decide) ?_
    refine va_put (D := D) (ci := 9) (v := .int (0 : Int32)) (ty := .int) (C := RX10) (T := TX10) (N := 14) hx hb hts iX10 tyX10 tyX10_ok nmX10 hown hK hP hD hS 0 o_Mn rfl 11 (by decide) (htl _ (mB7 _ (List.mem_of_getElem? (i := 22) rfl))) (fun _ h9 => h9) rfl (by decide +kernel) rfl rfl (Nat.le_of_ble_eq_true rfl) dX10_allow_2 (fun H locs hP hD hS => ?_)
    have hP := cvP si_Mn_11 hP
    have hD := cvD si_Mn_11 hD
    obtain ⟨s1, es1⟩ : ∃ z, z = sI sMn 11 (0 : Int32) := ⟨_, rfl⟩
    have hP : va_P D vwCl (wMn K hMn rMn0 rMn2 rMn3 rMn4 rMn5 rMn6 rMn7 rMn8 rMn9 rMn10 s1) H := by rw [es1]; exact hP
    have hD : va_D A (wMn K hMn rMn0 rMn2 rMn3 rMn4 rMn5 rMn6 rMn7 rMn8 rMn9 rMn10 s1) := by rw [es1]; exact hD
    have hf := lz_s hf s1 es1
    refine lv_iconst (v := (1 : Int32)) hx hb dX10_allow_5 (by decide) ?_
    have e9 := Option.some.inj hf
    rw [hQ]
    exact W.zret (v := (1 : Int32)) hx hb hr rfl (fun t ht hW => ⟨⟨(1 : Int32), s1, rfl, ⟨pr1 e9, pr2 e9⟩, ⟨by rw [ht]; exact hP, va_K.moved hW.alike hK, hD⟩⟩, hS.F ht⟩) hS.2.2 dX10_allow_6
  rw [hHe] at hgo
  exact hgo

theorem gcV_X9_isLeft {T0 : Cond} {own : String} {i : Nat} (h : Cond.methodLink own i yX9_isLeft ∈ wsL_law) : GoodIn (T0 :: wsL_law) (wsV own i RX9 yX9_isLeft wz_X9_isLeft) := gV h (mB28 _ (List.mem_of_getElem? (i := 21) rfl)) (mB28 _ (List.mem_of_getElem? (i := 22) rfl)) (mB1 _ (List.mem_of_getElem? (i := 17) rfl)) (mB28 _ (List.mem_of_getElem? (i := 23) rfl))
theorem hdV_X9_isLeft : yX9_isLeft.cls = RX9 ∧ yX9_isLeft.cls ≠ "java/lang/invoke/MethodHandle" ∧ yX9_isLeft.cls ≠ "java/lang/invoke/VarHandle" ∧ (parseMethodDescriptor yX9_isLeft.desc).map (fun d => d.parameters.length) = some 1 := by decide +kernel
theorem gcV_X10_allow {T0 : Cond} {own : String} {i : Nat} (h : Cond.methodLink own i yX10_allow ∈ wsL_law) : GoodIn (T0 :: wsL_law) (wsV own i RX10 yX10_allow wz_X10_allow) := gV h (mB29 _ (List.mem_of_getElem? (i := 5) rfl)) (mB29 _ (List.mem_of_getElem? (i := 6) rfl)) (mB1 _ (List.mem_of_getElem? (i := 2) rfl)) (mB29 _ (List.mem_of_getElem? (i := 7) rfl))
theorem hdV_X10_allow : yX10_allow.cls = RX10 ∧ yX10_allow.cls ≠ "java/lang/invoke/MethodHandle" ∧ yX10_allow.cls ≠ "java/lang/invoke/VarHandle" ∧ (parseMethodDescriptor yX10_allow.desc).map (fun d => d.parameters.length) = some 0 := by decide +kernel
theorem gcV_X10_deny {T0 : Cond} {own : String} {i : Nat} (h : Cond.methodLink own i yX10_deny ∈ wsL_law) : GoodIn (T0 :: wsL_law) (wsV own i RX10 yX10_deny wz_X10_deny) := gV h (mB29 _ (List.mem_of_getElem? (i := 1) rfl)) (mB29 _ (List.mem_of_getElem? (i := 2) rfl)) (mB1 _ (List.mem_of_getElem? (i := 2) rfl)) (mB29 _ (List.mem_of_getElem? (i := 3) rfl))
theorem hdV_X10_deny : yX10_deny.cls = RX10 ∧ yX10_deny.cls ≠ "java/lang/invoke/MethodHandle" ∧ yX10_deny.cls ≠ "java/lang/invoke/VarHandle" ∧ (parseMethodDescriptor yX10_deny.desc).map (fun d => d.parameters.length) = some 1 := by decide +kernel
def wz_X10_plan : List Cond := .code yX10_plan cX10_plan 3 (some .boolean) :: wsL_law
abbrev r_X10_plan : Room := { frames := 1, cells := 0, slots := 0, locals := 21 }
set_option maxHeartbeats 4000000 in
set_option maxRecDepth 100000 in
theorem c_X10_plan (l : Launch) (D : va_G) (K : Nat → ClassId) (F : Nat) (hMn : Nat → Nat) (rMn0 : Nat) (rMn3 : Nat) (rMn4 : Nat) (rMn6 : Nat) (rMn7 : Nat) (rMn8 : Nat) (rMn9 : Nat) (rMn10 : Nat) (hPl : Nat → Nat) (gPl2 : Nat → Nat) (gPl3 : Nat → Nat) (hRo : Nat → Nat) (sz : Nat) (sMn : MS) (sPl : MS) (sRo : MS) (p1 : Int32) (p2 : Int32) (res : Int32 × MS × MS) (hf : f_X10_plan F sRo p1 p2 sMn sPl = some res) : Met l yX10_plan wz_X10_plan r_X10_plan (va_Pc [.ref (hMn 99), .int p1, .int p2] (PW D K (wMn K hMn rMn0 (hRo 99) rMn3 rMn4 (hPl 99) rMn6 rMn7 rMn8 rMn9 rMn10 sMn ++ wPl K hPl gPl2 gPl3 sPl ++ wRo K hRo sRo) sz)) (va_Qi (fun r u => r = res.1 ∧ u = res.2) (fun u t => BW D K (va_A (wMn K hMn rMn0 (hRo 99) rMn3 rMn4 (hPl 99) rMn6 rMn7 rMn8 rMn9 rMn10 sMn ++ wPl K hPl gPl2 gPl3 sPl ++ wRo K hRo sRo) sz) (wMn K hMn rMn0 (hRo 99) rMn3 rMn4 (hPl 99) rMn6 rMn7 rMn8 rMn9 rMn10 u.1 ++ wPl K hPl gPl2 gPl3 u.2 ++ wRo K hRo sRo) t) (va_A (wMn K hMn rMn0 (hRo 99) rMn3 rMn4 (hPl 99) rMn6 rMn7 rMn8 rMn9 rMn10 sMn ++ wPl K hPl gPl2 gPl3 sPl ++ wRo K hRo sRo) sz)) 0 0 (va_A (wMn K hMn rMn0 (hRo 99) rMn3 rMn4 (hPl 99) rMn6 rMn7 rMn8 rMn9 rMn10 sMn ++ wPl K hPl gPl2 gPl3 sPl ++ wRo K hRo sRo) sz) := by
  refine Met.ofW (cc := cX10_plan) (maxL := 3) (ret := (some .boolean)) (by decide) rfl ?_
  intro p e s m args below meth c s₁ B hml hv
  obtain ⟨hargs, hsz, hP, hK, hD0⟩ := hv
  have hx := B.exec
  have hb := B.bytes
  have hr := B.returns
  have hts := atoms_spec (ws := wz_X10_plan) B.pre
  have htl : ∀ w ∈ wsL_law, w.before args s = true := fun w h => hts w (List.mem_cons_of_mem _ h)
  have hown : s.vm.findClass RX10 = some m.cls := findClass_of_methodNamed B.named
  have hlocks := B.notSynchronized
  subst hsz
  have hD := hD0.self (sz := s.heap.size)
  generalize hAe : va_A (wMn K hMn rMn0 (hRo 99) rMn3 rMn4 (hPl 99) rMn6 rMn7 rMn8 rMn9 rMn10 sMn ++ wPl K hPl gPl2 gPl3 sPl ++ wRo K hRo sRo) s.heap.size = A at hD ⊢
  have hA : ∀ q : Nat, s.heap.size ≤ q → A q := fun q h => by rw [← hAe]; exact Or.inr h
  have hS : va_S A s.heap s.heap [] := va_S.rf
  have iX10 : ∀ w ∈ wsX100, w ∈ wz_X10_plan := fun w h => List.mem_cons_of_mem _ (inlX10 w h)
  have iX6 : ∀ w ∈ wsX60, w ∈ wz_X10_plan := fun w h => List.mem_cons_of_mem _ (inlX6 w h)
  suffices hgo : ∀ Q : State → Prop, Q = MQ below (va_Qi (fun r u => r = res.1 ∧ u = res.2) (fun u t => BW D K A (wMn K hMn rMn0 (hRo 99) rMn3 rMn4 (hPl 99) rMn6 rMn7 rMn8 rMn9 rMn10 u.1 ++ wPl K hPl gPl2 gPl3 u.2 ++ wRo K hRo sRo) t) A) args s 0 0 A → W p l e (headSpec wz_X10_plan r_X10_plan).room s m args below meth c s.heap [] 0 0 Q (entryFrame m args 3) from hgo _ rfl
  intro Q hQ
  have hen : entryFrame m args 3 = entryFrame m (([.ref (hMn 99), .int p1, .int p2] : List Value).toArray) 3 := by rw [hargs]
  have hl := lv_entry ([.ref (hMn 99), .int p1, .int p2]) (n := 3) (Nat.le_of_ble_eq_true rfl)
  rw [hen, lg_entry_eq]
  generalize (lg_sl ([.ref (hMn 99), .int p1, .int p2]) ++ List.replicate (3 - (lg_sl ([.ref (hMn 99), .int p1, .int p2])).length) Slot.unset).toArray = ls at hl ⊢
  have hl : lv_has ls 3 [(0, .ref (hMn 99)), (1, .int p1), (2, .int p2)] := hl
  unfold f_X10_plan at hf
  obtain ⟨H, hHe⟩ : ∃ z, z = s.heap := ⟨_, rfl⟩
  obtain ⟨locs, hLe⟩ : ∃ z : List Loc, z = [] := ⟨_, rfl⟩
  rw [← hLe]
  have hS : va_S A s.heap H locs := by rw [hHe, hLe]; exact hS
  have hP : va_P D vwCl (wMn K hMn rMn0 (hRo 99) rMn3 rMn4 (hPl 99) rMn6 rMn7 rMn8 rMn9 rMn10 sMn ++ wPl K hPl gPl2 gPl3 sPl ++ wRo K hRo sRo) H := by rw [hHe]; exact hP
  have hgo : W p l e (headSpec wz_X10_plan r_X10_plan).room s m args below meth c H locs 0 0 Q (F0 m 0 ls []) := by
    refine lv_aload_n hx hb dX10_plan_0 rfl (lv_at hl 0 rfl) ?_
    refine va_get (D := D) (ci := 9) (v := .ref (hRo 99)) (C := RX10) (T := TX10) (N := 14) hx hb hts iX10 hown hK hP 0 (rwl (rwl o_Mn)) rfl 2 (by decide) (htl _ (mB1 _ (List.mem_of_getElem? (i := 18) rfl))) (fun _ h9 => h9) rfl dX10_plan_1 ?_
    refine lv_iload_n hx hb dX10_plan_4 rfl (lv_at hl 1 rfl) ?_
    obtain ⟨o1, go1, hf⟩ := bd_s hf
    refine ro_Vi (As := [.int p1]) (rest := []) ⟨hx, hb, hml, hown, hts⟩ (c_X9_isLeft l D K F hRo sRo p1 o1 go1) (cwV 1 hts (gcV_X9_isLeft (mB28 _ (List.mem_of_getElem? (i := 20) rfl))) rfl rfl rfl hdV_X9_isLeft ⟨Nat.le_of_ble_eq_true rfl, Nat.le_of_ble_eq_true rfl⟩) hK hP hS (va_PL (cs := [wMn K hMn rMn0 (hRo 99) rMn3 rMn4 (hPl 99) rMn6 rMn7 rMn8 rMn9 rMn10 sMn, wPl K hPl gPl2 gPl3 sPl, wRo K hRo sRo]) (cc := [wRo K hRo sRo]) hP (fl3 _ _ _) [2] rfl (fl1 _)) (va_recv hK hP (ci := 8) (q0 := ((1 + 5) + 0)) rfl (rwr (lnA ln_Mn ln_Pl) o_Ro)) rfl hl.1 rfl (Nat.le_of_ble_eq_true rfl) dX10_plan_5 ⟨Nat.zero_le _, Nat.zero_le _⟩ (fun H locs hP hS => ?_)
    refine lv_if_ne (tgt := 17) hx hb dX10_plan_8 (by decide) (fun c2 => ?_) (fun c2 => ?_)
    · have hf := it_f hf c2
      refine lv_aload_n hx hb dX10_plan_17 rfl (lv_at hl 0 rfl) ?_
      refine va_get (D := D) (ci := 9) (v := .ref (hRo 99)) (C := RX10) (T := TX10) (N := 14) hx hb hts iX10 hown hK hP 0 (rwl (rwl o_Mn)) rfl 2 (by decide) (htl _ (mB1 _ (List.mem_of_getElem? (i := 18) rfl))) (fun _ h9 => h9) rfl dX10_plan_18 ?_
      refine lv_iload_n hx hb dX10_plan_21 rfl (lv_at hl 2 rfl) ?_
      obtain ⟨o3, go3, hf⟩ := bd_s hf
      refine ro_Vi (As := [.int p2]) (rest := []) ⟨hx, hb, hml, hown, hts⟩ (c_X9_isLevel l D K F hRo sRo p2 o3 go3) (cwV 1 hts (gcV_X9_isLevel (mB27 _ (List.mem_of_getElem? (i := 23) rfl))) rfl rfl rfl hdV_X9_isLevel ⟨Nat.le_of_ble_eq_true rfl, Nat.le_of_ble_eq_true rfl⟩) hK hP hS (va_PL (cs := [wMn K hMn rMn0 (hRo 99) rMn3 rMn4 (hPl 99) rMn6 rMn7 rMn8 rMn9 rMn10 sMn, wPl K hPl gPl2 gPl3 sPl, wRo K hRo sRo]) (cc := [wRo K hRo sRo]) hP (fl3 _ _ _) [2] rfl (fl1 _)) (va_recv hK hP (ci := 8) (q0 := ((1 + 5) + 0)) rfl (rwr (lnA ln_Mn ln_Pl) o_Ro)) rfl hl.1 rfl (Nat.le_of_ble_eq_true rfl) dX10_plan_22 ⟨Nat.zero_le _, Nat.zero_le _⟩ (fun H locs hP hS => ?_)
      refine lv_if_ne (tgt := 34) hx hb dX10_plan_25 (by decide) (fun c4 => ?_) (fun c4 => ?_)
      · have hf := it_f hf c4
        refine lv_aload_n hx hb dX10_plan_34 rfl (lv_at hl 0 rfl) ?_
        refine va_get (D := D) (ci := 9) (v := .ref (hPl 99)) (C := RX10) (T := TX10) (N := 14) hx hb hts iX10 hown hK hP 0 (rwl (rwl o_Mn)) rfl 5 (by decide) (htl _ (mB2 _ (List.mem_of_getElem? (i := 3) rfl))) (fun _ h9 => h9) rfl dX10_plan_35 ?_
        refine va_get (D := D) (ci := 5) (v := .ref (hPl 0)) (C := RX6) (T := TX6) (N := 4) hx hb hts iX6 hown hK hP (1 + 0) (rwl (rwr ln_Mn o_Pl)) rfl 0 (by decide) (htl _ (mB28 _ (List.mem_of_getElem? (i := 19) rfl))) (fun _ h9 => h9) rfl dX10_plan_38 ?_
        refine lv_iload_n hx hb dX10_plan_41 rfl (lv_at hl 1 rfl) ?_
        refine lv_iload_n hx hb dX10_plan_42 rfl (lv_at hl 2 rfl) ?_
        obtain ⟨g5, hf⟩ := gd_s hf
        refine va_iast hx hb hK hP hD hS (1 + 1) 0 (f := sPl.2.2.1 0) (rwl (rwr ln_Mn a_Pl_0)) rfl (vpb_in g5) dX10_plan_43 (fun H locs hP hD hS => ?_)
        have hP := cvP (stl (str ln_Mn sa_Pl_0) (rlt (rwr ln_Mn a_Pl_0))) hP
        have hD := cvD (stl (str ln_Mn sa_Pl_0) (rlt (rwr ln_Mn a_Pl_0))) hD
        obtain ⟨s6, es6⟩ : ∃ z, z = sA sPl 0 p1.toNatClampNeg p2 := ⟨_, rfl⟩
        have hP : va_P D vwCl (wMn K hMn rMn0 (hRo 99) rMn3 rMn4 (hPl 99) rMn6 rMn7 rMn8 rMn9 rMn10 sMn ++ wPl K hPl gPl2 gPl3 s6 ++ wRo K hRo sRo) H := by rw [es6]; exact hP
        have hD : va_D A (wMn K hMn rMn0 (hRo 99) rMn3 rMn4 (hPl 99) rMn6 rMn7 rMn8 rMn9 rMn10 sMn ++ wPl K hPl gPl2 gPl3 s6 ++ wRo K hRo sRo) := by rw [es6]; exact hD
        have hf := lz_s hf s6 es6
        refine lv_aload_n hx hb dX10_plan_44 rfl (lv_at hl 0 rfl) ?_
        obtain ⟨o7, go7, hf⟩ := bd_s hf
        refine rk_Vi (wn := wMn K hMn rMn0 (hRo 99) rMn3 rMn4 (hPl 99) rMn6 rMn7 rMn8 rMn9 rMn10 o7.2 ++ wPl K hPl gPl2 gPl3 s6 ++ wRo K hRo sRo) [wMn K hMn rMn0 (hRo 99) rMn3 rMn4 (hPl 99) rMn6 rMn7 rMn8 rMn9 rMn10 sMn, wPl K hPl gPl2 gPl3 s6, wRo K hRo sRo] [wMn K hMn rMn0 (hRo 99) rMn3 rMn4 (hPl 99) rMn6 rMn7 rMn8 rMn9 rMn10 sMn] [wMn K hMn rMn0 (hRo 99) rMn3 rMn4 (hPl 99) rMn6 rMn7 rMn8 rMn9 rMn10 o7.2] [wMn K hMn rMn0 (hRo 99) rMn3 rMn4 (hPl 99) rMn6 rMn7 rMn8 rMn9 rMn10 o7.2, wPl K hPl gPl2 gPl3 s6, wRo K hRo sRo] (As := []) (rest := []) ⟨hx, hb, hml, hown, hts⟩ (c_X10_allow l D K F hMn rMn0 (hRo 99) rMn3 rMn4 (hPl 99) rMn6 rMn7 rMn8 rMn9 rMn10 H.size sMn o7 go7) (cwV 0 hts (gcV_X10_allow (mB29 _ (List.mem_of_getElem? (i := 4) rfl))) rfl rfl rfl hdV_X10_allow ⟨Nat.le_of_ble_eq_true rfl, Nat.le_of_ble_eq_true rfl⟩) hK hP hD hS hA [0] (fl3 _ _ _) rfl (by decide) (fl1 _) (fl1 _) rfl rfl (fl3 _ _ _) (va_recv hK hP (ci := 9) (q0 := 0) rfl (rwl (rwl o_Mn))) rfl hl.1 rfl (Nat.le_of_ble_eq_true rfl) dX10_plan_45 ⟨Nat.zero_le _, Nat.zero_le _⟩ (fun H locs hP hD hS => ?_)
        have hP : va_P D vwCl (wMn K hMn rMn0 (hRo 99) rMn3 rMn4 (hPl 99) rMn6 rMn7 rMn8 rMn9 rMn10 o7.2 ++ wPl K hPl gPl2 gPl3 s6 ++ wRo K hRo sRo) H := hP
        have hD : va_D A (wMn K hMn rMn0 (hRo 99) rMn3 rMn4 (hPl 99) rMn6 rMn7 rMn8 rMn9 rMn10 o7.2 ++ wPl K hPl gPl2 gPl3 s6 ++ wRo K hRo sRo) := hD
        obtain ⟨g8, hf⟩ := gd_s hf
        have e9 := Option.some.inj hf
        rw [hQ]
        exact W.zret (v := o7.1) hx hb hr (bob_s g8) (fun t ht hW => ⟨⟨o7.1, (o7.2, s6), rfl, ⟨pr1 e9, pr2 e9⟩, ⟨by rw [ht]; exact hP, va_K.moved hW.alike hK, hD⟩⟩, hS.F ht⟩) hS.2.2 dX10_plan_48
      · have hf := it_t hf c4
        refine lv_aload_n hx hb dX10_plan_28 rfl (lv_at hl 0 rfl) ?_
        refine lv_iconst (v := (2 : Int32)) hx hb dX10_plan_29 (by decide) ?_
        obtain ⟨o9, go9, hf⟩ := bd_s hf
        refine rk_Vi (wn := wMn K hMn rMn0 (hRo 99) rMn3 rMn4 (hPl 99) rMn6 rMn7 rMn8 rMn9 rMn10 o9.2 ++ wPl K hPl gPl2 gPl3 sPl ++ wRo K hRo sRo) [wMn K hMn rMn0 (hRo 99) rMn3 rMn4 (hPl 99) rMn6 rMn7 rMn8 rMn9 rMn10 sMn, wPl K hPl gPl2 gPl3 sPl, wRo K hRo sRo] [wMn K hMn rMn0 (hRo 99) rMn3 rMn4 (hPl 99) rMn6 rMn7 rMn8 rMn9 rMn10 sMn] [wMn K hMn rMn0 (hRo 99) rMn3 rMn4 (hPl 99) rMn6 rMn7 rMn8 rMn9 rMn10 o9.2] [wMn K hMn rMn0 (hRo 99) rMn3 rMn4 (hPl 99) rMn6 rMn7 rMn8 rMn9 rMn10 o9.2, wPl K hPl gPl2 gPl3 sPl, wRo K hRo sRo] (As := [.int (2 : Int32)]) (rest := []) ⟨hx, hb, hml, hown, hts⟩ (c_X10_deny l D K F hMn rMn0 (hRo 99) rMn3 rMn4 (hPl 99) rMn6 rMn7 rMn8 rMn9 rMn10 H.size sMn (2 : Int32) o9 go9) (cwV 1 hts (gcV_X10_deny (mB29 _ (List.mem_of_getElem? (i := 0) rfl))) rfl rfl rfl hdV_X10_deny ⟨Nat.le_of_ble_eq_true rfl, Nat.le_of_ble_eq_true rfl⟩) hK hP hD hS hA [0] (fl3 _ _ _) rfl (by decide) (fl1 _) (fl1 _) rfl rfl (fl3 _ _ _) (va_recv hK hP (ci := 9) (q0 := 0) rfl (rwl (rwl o_Mn))) rfl hl.1 rfl (Nat.le_of_ble_eq_true rfl) dX10_plan_30 ⟨Nat.zero_le _, Nat.zero_le _⟩ (fun H locs hP hD hS => ?_)
        have hP : va_P D vwCl (wMn K hMn rMn0 (hRo 99) rMn3 rMn4 (hPl 99) rMn6 rMn7 rMn8 rMn9 rMn10 o9.2 ++ wPl K hPl gPl2 gPl3 sPl ++ wRo K hRo sRo) H := hP
        have hD : va_D A (wMn K hMn rMn0 (hRo 99) rMn3 rMn4 (hPl 99) rMn6 rMn7 rMn8 rMn9 rMn10 o9.2 ++ wPl K hPl gPl2 gPl3 sPl ++ wRo K hRo sRo) := hD
        obtain ⟨g10, hf⟩ := gd_s hf
        have e9 := Option.some.inj hf
        rw [hQ]
        exact W.zret (v := o9.1) hx hb hr (bob_s g10) (fun t ht hW => ⟨⟨o9.1, (o9.2, sPl), rfl, ⟨pr1 e9, pr2 e9⟩, ⟨by rw [ht]; exact hP, va_K.moved hW.alike hK, hD⟩⟩, hS.F ht⟩) hS.2.2 dX10_plan_33
    · have hf := it_t hf c2
      refine lv_aload_n hx hb dX10_plan_11 rfl (lv_at hl 0 rfl) ?_
      refine lv_iconst (v := (1 : Int32)) hx hb dX10_plan_12 (by decide) ?_
      obtain ⟨o11, go11, hf⟩ := bd_s hf
      refine rk_Vi (wn := wMn K hMn rMn0 (hRo 99) rMn3 rMn4 (hPl 99) rMn6 rMn7 rMn8 rMn9 rMn10 o11.2 ++ wPl K hPl gPl2 gPl3 sPl ++ wRo K hRo sRo) [wMn K hMn rMn0 (hRo 99) rMn3 rMn4 (hPl 99) rMn6 rMn7 rMn8 rMn9 rMn10 sMn, wPl K hPl gPl2 gPl3 sPl, wRo K hRo sRo] [wMn K hMn rMn0 (hRo 99) rMn3 rMn4 (hPl 99) rMn6 rMn7 rMn8 rMn9 rMn10 sMn] [wMn K hMn rMn0 (hRo 99) rMn3 rMn4 (hPl 99) rMn6 rMn7 rMn8 rMn9 rMn10 o11.2] [wMn K hMn rMn0 (hRo 99) rMn3 rMn4 (hPl 99) rMn6 rMn7 rMn8 rMn9 rMn10 o11.2, wPl K hPl gPl2 gPl3 sPl, wRo K hRo sRo] (As := [.int (1 : Int32)]) (rest := []) ⟨hx, hb, hml, hown, hts⟩ (c_X10_deny l D K F hMn rMn0 (hRo 99) rMn3 rMn4 (hPl 99) rMn6 rMn7 rMn8 rMn9 rMn10 H.size sMn (1 : Int32) o11 go11) (cwV 1 hts (gcV_X10_deny (mB29 _ (List.mem_of_getElem? (i := 0) rfl))) rfl rfl rfl hdV_X10_deny ⟨Nat.le_of_ble_eq_true rfl, Nat.le_of_ble_eq_true rfl⟩) hK hP hD hS hA [0] (fl3 _ _ _) rfl (by decide) (fl1 _) (fl1 _) rfl rfl (fl3 _ _ _) (va_recv hK hP (ci := 9) (q0 := 0) rfl (rwl (rwl o_Mn))) rfl hl.1 rfl (Nat.le_of_ble_eq_true rfl) dX10_plan_13 ⟨Nat.zero_le _, Nat.zero_le _⟩ (fun H locs hP hD hS => ?_)
      have hP : va_P D vwCl (wMn K hMn rMn0 (hRo 99) rMn3 rMn4 (hPl 99) rMn6 rMn7 rMn8 rMn9 rMn10 o11.2 ++ wPl K hPl gPl2 gPl3 sPl ++ wRo K hRo sRo) H := hP
      have hD : va_D A (wMn K hMn rMn0 (hRo 99) rMn3 rMn4 (hPl 99) rMn6 rMn7 rMn8 rMn9 rMn10 o11.2 ++ wPl K hPl gPl2 gPl3 sPl ++ wRo K hRo sRo) := hD
      obtain ⟨g12, hf⟩ := gd_s hf
      have e9 := Option.some.inj hf
      rw [hQ]
      exact W.zret (v := o11.1) hx hb hr (bob_s g12) (fun t ht hW => ⟨⟨o11.1, (o11.2, sPl), rfl, ⟨pr1 e9, pr2 e9⟩, ⟨by rw [ht]; exact hP, va_K.moved hW.alike hK, hD⟩⟩, hS.F ht⟩) hS.2.2 dX10_plan_16
  rw [hHe] at hgo
  exact hgo

theorem gcV_X6_failsAt {T0 : Cond} {own : String} {i : Nat} (h : Cond.methodLink own i yX6_failsAt ∈ wsL_law) : GoodIn (T0 :: wsL_law) (wsV own i RX6 yX6_failsAt wz_X6_failsAt) := gV h (mB30 _ (List.mem_of_getElem? (i := 2) rfl)) (mB30 _ (List.mem_of_getElem? (i := 3) rfl)) (mB2 _ (List.mem_of_getElem? (i := 2) rfl)) (mB30 _ (List.mem_of_getElem? (i := 4) rfl))
theorem hdV_X6_failsAt : yX6_failsAt.cls = RX6 ∧ yX6_failsAt.cls ≠ "java/lang/invoke/MethodHandle" ∧ yX6_failsAt.cls ≠ "java/lang/invoke/VarHandle" ∧ (parseMethodDescriptor yX6_failsAt.desc).map (fun d => d.parameters.length) = some 1 := by decide +kernel
def wz_X10_judge : List Cond := .code yX10_judge cX10_judge 1 (some .int) :: wsL_law
abbrev r_X10_judge : Room := { frames := 2, cells := 0, slots := 0, locals := 44 }
set_option maxHeartbeats 4000000 in
set_option maxRecDepth 100000 in
theorem c_X10_judge (l : Launch) (D : va_G) (K : Nat → ClassId) (F : Nat) (hMn : Nat → Nat) (rMn0 : Nat) (rMn3 : Nat) (rMn4 : Nat) (rMn6 : Nat) (rMn7 : Nat) (rMn8 : Nat) (rMn9 : Nat) (rMn10 : Nat) (hPl : Nat → Nat) (gPl2 : Nat → Nat) (gPl3 : Nat → Nat) (hRo : Nat → Nat) (sz : Nat) (sMn : MS) (sPl : MS) (sRo : MS) (res : Int32 × MS) (hf : f_X10_judge F sPl sRo sMn = some res) : Met l yX10_judge wz_X10_judge r_X10_judge (va_Pc [.ref (hMn 99)] (PW D K (wMn K hMn rMn0 (hRo 99) rMn3 rMn4 (hPl 99) rMn6 rMn7 rMn8 rMn9 rMn10 sMn ++ wPl K hPl gPl2 gPl3 sPl ++ wRo K hRo sRo) sz)) (va_Qi (fun r u => r = res.1 ∧ u = res.2) (fun u t => BW D K (va_A (wMn K hMn rMn0 (hRo 99) rMn3 rMn4 (hPl 99) rMn6 rMn7 rMn8 rMn9 rMn10 sMn ++ wPl K hPl gPl2 gPl3 sPl ++ wRo K hRo sRo) sz) (wMn K hMn rMn0 (hRo 99) rMn3 rMn4 (hPl 99) rMn6 rMn7 rMn8 rMn9 rMn10 u ++ wPl K hPl gPl2 gPl3 sPl ++ wRo K hRo sRo) t) (va_A (wMn K hMn rMn0 (hRo 99) rMn3 rMn4 (hPl 99) rMn6 rMn7 rMn8 rMn9 rMn10 sMn ++ wPl K hPl gPl2 gPl3 sPl ++ wRo K hRo sRo) sz)) 0 0 (va_A (wMn K hMn rMn0 (hRo 99) rMn3 rMn4 (hPl 99) rMn6 rMn7 rMn8 rMn9 rMn10 sMn ++ wPl K hPl gPl2 gPl3 sPl ++ wRo K hRo sRo) sz) := by
  refine Met.ofW (cc := cX10_judge) (maxL := 1) (ret := (some .int)) (by decide) rfl ?_
  intro p e s m args below meth c s₁ B hml hv
  obtain ⟨hargs, hsz, hP, hK, hD0⟩ := hv
  have hx := B.exec
  have hb := B.bytes
  have hr := B.returns
  have hts := atoms_spec (ws := wz_X10_judge) B.pre
  have htl : ∀ w ∈ wsL_law, w.before args s = true := fun w h => hts w (List.mem_cons_of_mem _ h)
  have hown : s.vm.findClass RX10 = some m.cls := findClass_of_methodNamed B.named
  have hlocks := B.notSynchronized
  subst hsz
  have hD := hD0.self (sz := s.heap.size)
  generalize hAe : va_A (wMn K hMn rMn0 (hRo 99) rMn3 rMn4 (hPl 99) rMn6 rMn7 rMn8 rMn9 rMn10 sMn ++ wPl K hPl gPl2 gPl3 sPl ++ wRo K hRo sRo) s.heap.size = A at hD ⊢
  have hA : ∀ q : Nat, s.heap.size ≤ q → A q := fun q h => by rw [← hAe]; exact Or.inr h
  have hS : va_S A s.heap s.heap [] := va_S.rf
  have iX10 : ∀ w ∈ wsX100, w ∈ wz_X10_judge := fun w h => List.mem_cons_of_mem _ (inlX10 w h)
  suffices hgo : ∀ Q : State → Prop, Q = MQ below (va_Qi (fun r u => r = res.1 ∧ u = res.2) (fun u t => BW D K A (wMn K hMn rMn0 (hRo 99) rMn3 rMn4 (hPl 99) rMn6 rMn7 rMn8 rMn9 rMn10 u ++ wPl K hPl gPl2 gPl3 sPl ++ wRo K hRo sRo) t) A) args s 0 0 A → W p l e (headSpec wz_X10_judge r_X10_judge).room s m args below meth c s.heap [] 0 0 Q (entryFrame m args 1) from hgo _ rfl
  intro Q hQ
  have hen : entryFrame m args 1 = entryFrame m (([.ref (hMn 99)] : List Value).toArray) 1 := by rw [hargs]
  have hl := lv_entry ([.ref (hMn 99)]) (n := 1) (Nat.le_of_ble_eq_true rfl)
  rw [hen, lg_entry_eq]
  generalize (lg_sl ([.ref (hMn 99)]) ++ List.replicate (1 - (lg_sl ([.ref (hMn 99)])).length) Slot.unset).toArray = ls at hl ⊢
  have hl : lv_has ls 1 [(0, .ref (hMn 99))] := hl
  unfold f_X10_judge at hf
  obtain ⟨H, hHe⟩ : ∃ z, z = s.heap := ⟨_, rfl⟩
  obtain ⟨locs, hLe⟩ : ∃ z : List Loc, z = [] := ⟨_, rfl⟩
  rw [← hLe]
  have hS : va_S A s.heap H locs := by rw [hHe, hLe]; exact hS
  have hP : va_P D vwCl (wMn K hMn rMn0 (hRo 99) rMn3 rMn4 (hPl 99) rMn6 rMn7 rMn8 rMn9 rMn10 sMn ++ wPl K hPl gPl2 gPl3 sPl ++ wRo K hRo sRo) H := by rw [hHe]; exact hP
  have hgo : W p l e (headSpec wz_X10_judge r_X10_judge).room s m args below meth c H locs 0 0 Q (F0 m 0 ls []) := by
    refine lv_aload_n hx hb dX10_judge_0 rfl (lv_at hl 0 rfl) ?_
    refine va_get (D := D) (ci := 9) (v := .ref (hRo 99)) (C := RX10) (T := TX10) (N := 14) hx hb hts iX10 hown hK hP 0 (rwl (rwl o_Mn)) rfl 2 (by decide) (htl _ (mB1 _ (List.mem_of_getElem? (i := 18) rfl))) (fun _ h9 => h9) rfl dX10_judge_1 ?_
    obtain ⟨o1, go1, hf⟩ := bd_s hf
    refine ro_Vi (As := []) (rest := []) ⟨hx, hb, hml, hown, hts⟩ (c_X9_isTold l D K F hRo sRo o1 go1) (cwV 0 hts (gcV_X9_isTold (mB30 _ (List.mem_of_getElem? (i := 0) rfl))) rfl rfl rfl hdV_X9_isTold ⟨Nat.le_of_ble_eq_true rfl, Nat.le_of_ble_eq_true rfl⟩) hK hP hS (va_PL (cs := [wMn K hMn rMn0 (hRo 99) rMn3 rMn4 (hPl 99) rMn6 rMn7 rMn8 rMn9 rMn10 sMn, wPl K hPl gPl2 gPl3 sPl, wRo K hRo sRo]) (cc := [wRo K hRo sRo]) hP (fl3 _ _ _) [2] rfl (fl1 _)) (va_recv hK hP (ci := 8) (q0 := ((1 + 5) + 0)) rfl (rwr (lnA ln_Mn ln_Pl) o_Ro)) rfl hl.1 rfl (Nat.le_of_ble_eq_true rfl) dX10_judge_4 ⟨Nat.zero_le _, Nat.zero_le _⟩ (fun H locs hP hS => ?_)
    refine lv_if_ne (tgt := 16) hx hb dX10_judge_7 (by decide) (fun c2 => ?_) (fun c2 => ?_)
    · have hf := it_f hf c2
      refine lv_aload_n hx hb dX10_judge_16 rfl (lv_at hl 0 rfl) ?_
      refine lv_aload_n hx hb dX10_judge_17 rfl (lv_at hl 0 rfl) ?_
      refine va_get (D := D) (ci := 9) (v := .ref (hPl 99)) (C := RX10) (T := TX10) (N := 14) hx hb hts iX10 hown hK hP 0 (rwl (rwl o_Mn)) rfl 5 (by decide) (htl _ (mB2 _ (List.mem_of_getElem? (i := 3) rfl))) (fun _ h9 => h9) rfl dX10_judge_18 ?_
      refine lv_aload_n hx hb dX10_judge_21 rfl (lv_at hl 0 rfl) ?_
      refine va_get (D := D) (ci := 9) (v := .ref (hRo 99)) (C := RX10) (T := TX10) (N := 14) hx hb hts iX10 hown hK hP 0 (rwl (rwl o_Mn)) rfl 2 (by decide) (htl _ (mB1 _ (List.mem_of_getElem? (i := 18) rfl))) (fun _ h9 => h9) rfl dX10_judge_22 ?_
      obtain ⟨o3, go3, hf⟩ := bd_s hf
      refine ro_Vi (As := [.ref (hRo 99)]) (rest := [.ref (hMn 99)]) ⟨hx, hb, hml, hown, hts⟩ (c_X6_failsAt l D K F hPl gPl2 gPl3 hRo sPl sRo o3 go3) (cwV 1 hts (gcV_X6_failsAt (mB30 _ (List.mem_of_getElem? (i := 1) rfl))) rfl rfl rfl hdV_X6_failsAt ⟨Nat.le_of_ble_eq_true rfl, Nat.le_of_ble_eq_true rfl⟩) hK hP hS (va_PL (cs := [wMn K hMn rMn0 (hRo 99) rMn3 rMn4 (hPl 99) rMn6 rMn7 rMn8 rMn9 rMn10 sMn, wPl K hPl gPl2 gPl3 sPl, wRo K hRo sRo]) (cc := [wPl K hPl gPl2 gPl3 sPl, wRo K hRo sRo]) hP (fl3 _ _ _) [1, 2] rfl (fl2 _ _)) (va_recv hK hP (ci := 5) (q0 := (1 + 0)) rfl (rwl (rwr ln_Mn o_Pl))) rfl hl.1 rfl (Nat.le_of_ble_eq_true rfl) dX10_judge_25 ⟨Nat.zero_le _, Nat.zero_le _⟩ (fun H locs hP hS => ?_)
      obtain ⟨o4, go4, hf⟩ := bd_s hf
      refine rk_Vi (wn := wMn K hMn rMn0 (hRo 99) rMn3 rMn4 (hPl 99) rMn6 rMn7 rMn8 rMn9 rMn10 o4.2 ++ wPl K hPl gPl2 gPl3 sPl ++ wRo K hRo sRo) [wMn K hMn rMn0 (hRo 99) rMn3 rMn4 (hPl 99) rMn6 rMn7 rMn8 rMn9 rMn10 sMn, wPl K hPl gPl2 gPl3 sPl, wRo K hRo sRo] [wMn K hMn rMn0 (hRo 99) rMn3 rMn4 (hPl 99) rMn6 rMn7 rMn8 rMn9 rMn10 sMn] [wMn K hMn rMn0 (hRo 99) rMn3 rMn4 (hPl 99) rMn6 rMn7 rMn8 rMn9 rMn10 o4.2] [wMn K hMn rMn0 (hRo 99) rMn3 rMn4 (hPl 99) rMn6 rMn7 rMn8 rMn9 rMn10 o4.2, wPl K hPl gPl2 gPl3 sPl, wRo K hRo sRo] (As := [.int o3]) (rest := []) ⟨hx, hb, hml, hown, hts⟩ (c_X10_accept l D K F hMn rMn0 (hRo 99) rMn3 rMn4 (hPl 99) rMn6 rMn7 rMn8 rMn9 rMn10 H.size sMn o3 o4 go4) (cwV 1 hts (gcV_X10_accept (mB17 _ (List.mem_of_getElem? (i := 14) rfl))) rfl rfl rfl hdV_X10_accept ⟨Nat.le_of_ble_eq_true rfl, Nat.le_of_ble_eq_true rfl⟩) hK hP hD hS hA [0] (fl3 _ _ _) rfl (by decide) (fl1 _) (fl1 _) rfl rfl (fl3 _ _ _) (va_recv hK hP (ci := 9) (q0 := 0) rfl (rwl (rwl o_Mn))) rfl hl.1 rfl (Nat.le_of_ble_eq_true rfl) dX10_judge_28 ⟨Nat.zero_le _, Nat.zero_le _⟩ (fun H locs hP hD hS => ?_)
      have hP : va_P D vwCl (wMn K hMn rMn0 (hRo 99) rMn3 rMn4 (hPl 99) rMn6 rMn7 rMn8 rMn9 rMn10 o4.2 ++ wPl K hPl gPl2 gPl3 sPl ++ wRo K hRo sRo) H := hP
      have hD : va_D A (wMn K hMn rMn0 (hRo 99) rMn3 rMn4 (hPl 99) rMn6 rMn7 rMn8 rMn9 rMn10 o4.2 ++ wPl K hPl gPl2 gPl3 sPl ++ wRo K hRo sRo) := hD
      have e9 := Option.some.inj hf
      rw [hQ]
      exact W.iret (v := o4.1) hx hb hr (fun t ht hW => ⟨⟨o4.1, o4.2, rfl, ⟨pr1 e9, pr2 e9⟩, ⟨by rw [ht]; exact hP, va_K.moved hW.alike hK, hD⟩⟩, hS.F ht⟩) hS.2.2 dX10_judge_31
    · have hf := it_t hf c2
      refine lv_aload_n hx hb dX10_judge_10 rfl (lv_at hl 0 rfl) ?_
      refine lv_iconst (v := (1 : Int32)) hx hb dX10_judge_11 (by decide) ?_
      obtain ⟨o5, go5, hf⟩ := bd_s hf
      refine rk_Vi (wn := wMn K hMn rMn0 (hRo 99) rMn3 rMn4 (hPl 99) rMn6 rMn7 rMn8 rMn9 rMn10 o5.2 ++ wPl K hPl gPl2 gPl3 sPl ++ wRo K hRo sRo) [wMn K hMn rMn0 (hRo 99) rMn3 rMn4 (hPl 99) rMn6 rMn7 rMn8 rMn9 rMn10 sMn, wPl K hPl gPl2 gPl3 sPl, wRo K hRo sRo] [wMn K hMn rMn0 (hRo 99) rMn3 rMn4 (hPl 99) rMn6 rMn7 rMn8 rMn9 rMn10 sMn] [wMn K hMn rMn0 (hRo 99) rMn3 rMn4 (hPl 99) rMn6 rMn7 rMn8 rMn9 rMn10 o5.2] [wMn K hMn rMn0 (hRo 99) rMn3 rMn4 (hPl 99) rMn6 rMn7 rMn8 rMn9 rMn10 o5.2, wPl K hPl gPl2 gPl3 sPl, wRo K hRo sRo] (As := [.int (1 : Int32)]) (rest := []) ⟨hx, hb, hml, hown, hts⟩ (c_X10_refuse l D K F hMn rMn0 (hRo 99) rMn3 rMn4 (hPl 99) rMn6 rMn7 rMn8 rMn9 rMn10 H.size sMn (1 : Int32) o5 go5) (cwV 1 hts (gcV_X10_refuse (mB7 _ (List.mem_of_getElem? (i := 18) rfl))) rfl rfl rfl hdV_X10_refuse ⟨Nat.le_of_ble_eq_true rfl, Nat.le_of_ble_eq_true rfl⟩) hK hP hD hS hA [0] (fl3 _ _ _) rfl (by decide) (fl1 _) (fl1 _) rfl rfl (fl3 _ _ _) (va_recv hK hP (ci := 9) (q0 := 0) rfl (rwl (rwl o_Mn))) rfl hl.1 rfl (Nat.le_of_ble_eq_true rfl) dX10_judge_12 ⟨Nat.zero_le _, Nat.zero_le _⟩ (fun H locs hP hD hS => ?_)
      have hP : va_P D vwCl (wMn K hMn rMn0 (hRo 99) rMn3 rMn4 (hPl 99) rMn6 rMn7 rMn8 rMn9 rMn10 o5.2 ++ wPl K hPl gPl2 gPl3 sPl ++ wRo K hRo sRo) H := hP
      have hD : va_D A (wMn K hMn rMn0 (hRo 99) rMn3 rMn4 (hPl 99) rMn6 rMn7 rMn8 rMn9 rMn10 o5.2 ++ wPl K hPl gPl2 gPl3 sPl ++ wRo K hRo sRo) := hD
      have e9 := Option.some.inj hf
      rw [hQ]
      exact W.iret (v := o5.1) hx hb hr (fun t ht hW => ⟨⟨o5.1, o5.2, rfl, ⟨pr1 e9, pr2 e9⟩, ⟨by rw [ht]; exact hP, va_K.moved hW.alike hK, hD⟩⟩, hS.F ht⟩) hS.2.2 dX10_judge_15
  rw [hHe] at hgo
  exact hgo

theorem gcV_X6_pence {T0 : Cond} {own : String} {i : Nat} (h : Cond.methodLink own i yX6_pence ∈ wsL_law) : GoodIn (T0 :: wsL_law) (wsV own i RX6 yX6_pence wz_X6_pence) := gV h (mB31 _ (List.mem_of_getElem? (i := 9) rfl)) (mB31 _ (List.mem_of_getElem? (i := 10) rfl)) (mB2 _ (List.mem_of_getElem? (i := 2) rfl)) (mB31 _ (List.mem_of_getElem? (i := 11) rfl))
theorem hdV_X6_pence : yX6_pence.cls = RX6 ∧ yX6_pence.cls ≠ "java/lang/invoke/MethodHandle" ∧ yX6_pence.cls ≠ "java/lang/invoke/VarHandle" ∧ (parseMethodDescriptor yX6_pence.desc).map (fun d => d.parameters.length) = some 1 := by decide +kernel
def wz_X10_cost : List Cond := .code yX10_cost cX10_cost 1 (some .int) :: wsL_law
abbrev r_X10_cost : Room := { frames := 2, cells := 0, slots := 0, locals := 45 }
set_option maxHeartbeats 4000000 in
set_option maxRecDepth 100000 in
theorem c_X10_cost (l : Launch) (D : va_G) (K : Nat → ClassId) (F : Nat) (hMn : Nat → Nat) (rMn0 : Nat) (rMn3 : Nat) (rMn4 : Nat) (rMn6 : Nat) (rMn7 : Nat) (rMn8 : Nat) (rMn9 : Nat) (rMn10 : Nat) (hPl : Nat → Nat) (gPl2 : Nat → Nat) (gPl3 : Nat → Nat) (hRo : Nat → Nat) (sz : Nat) (sMn : MS) (sPl : MS) (sRo : MS) (res : Int32 × MS) (hf : f_X10_cost F sPl sRo sMn = some res) : Met l yX10_cost wz_X10_cost r_X10_cost (va_Pc [.ref (hMn 99)] (PW D K (wMn K hMn rMn0 (hRo 99) rMn3 rMn4 (hPl 99) rMn6 rMn7 rMn8 rMn9 rMn10 sMn ++ wPl K hPl gPl2 gPl3 sPl ++ wRo K hRo sRo) sz)) (va_Qi (fun r u => r = res.1 ∧ u = res.2) (fun u t => BW D K (va_A (wMn K hMn rMn0 (hRo 99) rMn3 rMn4 (hPl 99) rMn6 rMn7 rMn8 rMn9 rMn10 sMn ++ wPl K hPl gPl2 gPl3 sPl ++ wRo K hRo sRo) sz) (wMn K hMn rMn0 (hRo 99) rMn3 rMn4 (hPl 99) rMn6 rMn7 rMn8 rMn9 rMn10 u ++ wPl K hPl gPl2 gPl3 sPl ++ wRo K hRo sRo) t) (va_A (wMn K hMn rMn0 (hRo 99) rMn3 rMn4 (hPl 99) rMn6 rMn7 rMn8 rMn9 rMn10 sMn ++ wPl K hPl gPl2 gPl3 sPl ++ wRo K hRo sRo) sz)) 0 0 (va_A (wMn K hMn rMn0 (hRo 99) rMn3 rMn4 (hPl 99) rMn6 rMn7 rMn8 rMn9 rMn10 sMn ++ wPl K hPl gPl2 gPl3 sPl ++ wRo K hRo sRo) sz) := by
  refine Met.ofW (cc := cX10_cost) (maxL := 1) (ret := (some .int)) (by decide) rfl ?_
  intro p e s m args below meth c s₁ B hml hv
  obtain ⟨hargs, hsz, hP, hK, hD0⟩ := hv
  have hx := B.exec
  have hb := B.bytes
  have hr := B.returns
  have hts := atoms_spec (ws := wz_X10_cost) B.pre
  have htl : ∀ w ∈ wsL_law, w.before args s = true := fun w h => hts w (List.mem_cons_of_mem _ h)
  have hown : s.vm.findClass RX10 = some m.cls := findClass_of_methodNamed B.named
  have hlocks := B.notSynchronized
  subst hsz
  have hD := hD0.self (sz := s.heap.size)
  generalize hAe : va_A (wMn K hMn rMn0 (hRo 99) rMn3 rMn4 (hPl 99) rMn6 rMn7 rMn8 rMn9 rMn10 sMn ++ wPl K hPl gPl2 gPl3 sPl ++ wRo K hRo sRo) s.heap.size = A at hD ⊢
  have hA : ∀ q : Nat, s.heap.size ≤ q → A q := fun q h => by rw [← hAe]; exact Or.inr h
  have hS : va_S A s.heap s.heap [] := va_S.rf
  have iX10 : ∀ w ∈ wsX100, w ∈ wz_X10_cost := fun w h => List.mem_cons_of_mem _ (inlX10 w h)
  suffices hgo : ∀ Q : State → Prop, Q = MQ below (va_Qi (fun r u => r = res.1 ∧ u = res.2) (fun u t => BW D K A (wMn K hMn rMn0 (hRo 99) rMn3 rMn4 (hPl 99) rMn6 rMn7 rMn8 rMn9 rMn10 u ++ wPl K hPl gPl2 gPl3 sPl ++ wRo K hRo sRo) t) A) args s 0 0 A → W p l e (headSpec wz_X10_cost r_X10_cost).room s m args below meth c s.heap [] 0 0 Q (entryFrame m args 1) from hgo _ rfl
  intro Q hQ
  have hen : entryFrame m args 1 = entryFrame m (([.ref (hMn 99)] : List Value).toArray) 1 := by rw [hargs]
  have hl := lv_entry ([.ref (hMn 99)]) (n := 1) (Nat.le_of_ble_eq_true rfl)
  rw [hen, lg_entry_eq]
  generalize (lg_sl ([.ref (hMn 99)]) ++ List.replicate (1 - (lg_sl ([.ref (hMn 99)])).length) Slot.unset).toArray = ls at hl ⊢
  have hl : lv_has ls 1 [(0, .ref (hMn 99))] := hl
  unfold f_X10_cost at hf
  obtain ⟨H, hHe⟩ : ∃ z, z = s.heap := ⟨_, rfl⟩
  obtain ⟨locs, hLe⟩ : ∃ z : List Loc, z = [] := ⟨_, rfl⟩
  rw [← hLe]
  have hS : va_S A s.heap H locs := by rw [hHe, hLe]; exact hS
  have hP : va_P D vwCl (wMn K hMn rMn0 (hRo 99) rMn3 rMn4 (hPl 99) rMn6 rMn7 rMn8 rMn9 rMn10 sMn ++ wPl K hPl gPl2 gPl3 sPl ++ wRo K hRo sRo) H := by rw [hHe]; exact hP
  have hgo : W p l e (headSpec wz_X10_cost r_X10_cost).room s m args below meth c H locs 0 0 Q (F0 m 0 ls []) := by
    refine lv_aload_n hx hb dX10_cost_0 rfl (lv_at hl 0 rfl) ?_
    refine va_get (D := D) (ci := 9) (v := .ref (hRo 99)) (C := RX10) (T := TX10) (N := 14) hx hb hts iX10 hown hK hP 0 (rwl (rwl o_Mn)) rfl 2 (by decide) (htl _ (mB1 _ (List.mem_of_getElem? (i := 18) rfl))) (fun _ h9 => h9) rfl dX10_cost_1 ?_
    obtain ⟨o1, go1, hf⟩ := bd_s hf
    refine ro_Vi (As := []) (rest := []) ⟨hx, hb, hml, hown, hts⟩ (c_X9_isTold l D K F hRo sRo o1 go1) (cwV 0 hts (gcV_X9_isTold (mB30 _ (List.mem_of_getElem? (i := 0) rfl))) rfl rfl rfl hdV_X9_isTold ⟨Nat.le_of_ble_eq_true rfl, Nat.le_of_ble_eq_true rfl⟩) hK hP hS (va_PL (cs := [wMn K hMn rMn0 (hRo 99) rMn3 rMn4 (hPl 99) rMn6 rMn7 rMn8 rMn9 rMn10 sMn, wPl K hPl gPl2 gPl3 sPl, wRo K hRo sRo]) (cc := [wRo K hRo sRo]) hP (fl3 _ _ _) [2] rfl (fl1 _)) (va_recv hK hP (ci := 8) (q0 := ((1 + 5) + 0)) rfl (rwr (lnA ln_Mn ln_Pl) o_Ro)) rfl hl.1 rfl (Nat.le_of_ble_eq_true rfl) dX10_cost_4 ⟨Nat.zero_le _, Nat.zero_le _⟩ (fun H locs hP hS => ?_)
    refine lv_if_ne (tgt := 16) hx hb dX10_cost_7 (by decide) (fun c2 => ?_) (fun c2 => ?_)
    · have hf := it_f hf c2
      refine lv_aload_n hx hb dX10_cost_16 rfl (lv_at hl 0 rfl) ?_
      refine va_get (D := D) (ci := 9) (v := .ref (hPl 99)) (C := RX10) (T := TX10) (N := 14) hx hb hts iX10 hown hK hP 0 (rwl (rwl o_Mn)) rfl 5 (by decide) (htl _ (mB2 _ (List.mem_of_getElem? (i := 3) rfl))) (fun _ h9 => h9) rfl dX10_cost_17 ?_
      refine lv_aload_n hx hb dX10_cost_20 rfl (lv_at hl 0 rfl) ?_
      refine va_get (D := D) (ci := 9) (v := .ref (hRo 99)) (C := RX10) (T := TX10) (N := 14) hx hb hts iX10 hown hK hP 0 (rwl (rwl o_Mn)) rfl 2 (by decide) (htl _ (mB1 _ (List.mem_of_getElem? (i := 18) rfl))) (fun _ h9 => h9) rfl dX10_cost_21 ?_
      obtain ⟨o3, go3, hf⟩ := bd_s hf
      refine ro_Vi (As := [.ref (hRo 99)]) (rest := []) ⟨hx, hb, hml, hown, hts⟩ (c_X6_failsAt l D K F hPl gPl2 gPl3 hRo sPl sRo o3 go3) (cwV 1 hts (gcV_X6_failsAt (mB30 _ (List.mem_of_getElem? (i := 1) rfl))) rfl rfl rfl hdV_X6_failsAt ⟨Nat.le_of_ble_eq_true rfl, Nat.le_of_ble_eq_true rfl⟩) hK hP hS (va_PL (cs := [wMn K hMn rMn0 (hRo 99) rMn3 rMn4 (hPl 99) rMn6 rMn7 rMn8 rMn9 rMn10 sMn, wPl K hPl gPl2 gPl3 sPl, wRo K hRo sRo]) (cc := [wPl K hPl gPl2 gPl3 sPl, wRo K hRo sRo]) hP (fl3 _ _ _) [1, 2] rfl (fl2 _ _)) (va_recv hK hP (ci := 5) (q0 := (1 + 0)) rfl (rwl (rwr ln_Mn o_Pl))) rfl hl.1 rfl (Nat.le_of_ble_eq_true rfl) dX10_cost_24 ⟨Nat.zero_le _, Nat.zero_le _⟩ (fun H locs hP hS => ?_)
      refine lv_bipush (v := (-2 : Int32)) hx hb dX10_cost_27 (by decide) ?_
      refine lv_icmp_eq (tgt := 38) hx hb dX10_cost_29 (by decide) (fun c4 => ?_) (fun c4 => ?_)
      · have hf := it_t hf c4
        refine lv_aload_n hx hb dX10_cost_38 rfl (lv_at hl 0 rfl) ?_
        refine lv_aload_n hx hb dX10_cost_39 rfl (lv_at hl 0 rfl) ?_
        refine va_get (D := D) (ci := 9) (v := .ref (hPl 99)) (C := RX10) (T := TX10) (N := 14) hx hb hts iX10 hown hK hP 0 (rwl (rwl o_Mn)) rfl 5 (by decide) (htl _ (mB2 _ (List.mem_of_getElem? (i := 3) rfl))) (fun _ h9 => h9) rfl dX10_cost_40 ?_
        refine lv_aload_n hx hb dX10_cost_43 rfl (lv_at hl 0 rfl) ?_
        refine va_get (D := D) (ci := 9) (v := .ref (hRo 99)) (C := RX10) (T := TX10) (N := 14) hx hb hts iX10 hown hK hP 0 (rwl (rwl o_Mn)) rfl 2 (by decide) (htl _ (mB1 _ (List.mem_of_getElem? (i := 18) rfl))) (fun _ h9 => h9) rfl dX10_cost_44 ?_
        obtain ⟨o5, go5, hf⟩ := bd_s hf
        refine ro_Vi (As := [.ref (hRo 99)]) (rest := [.ref (hMn 99)]) ⟨hx, hb, hml, hown, hts⟩ (c_X6_pence l D K F hPl gPl2 gPl3 hRo sPl sRo o5 go5) (cwV 1 hts (gcV_X6_pence (mB31 _ (List.mem_of_getElem? (i := 8) rfl))) rfl rfl rfl hdV_X6_pence ⟨Nat.le_of_ble_eq_true rfl, Nat.le_of_ble_eq_true rfl⟩) hK hP hS (va_PL (cs := [wMn K hMn rMn0 (hRo 99) rMn3 rMn4 (hPl 99) rMn6 rMn7 rMn8 rMn9 rMn10 sMn, wPl K hPl gPl2 gPl3 sPl, wRo K hRo sRo]) (cc := [wPl K hPl gPl2 gPl3 sPl, wRo K hRo sRo]) hP (fl3 _ _ _) [1, 2] rfl (fl2 _ _)) (va_recv hK hP (ci := 5) (q0 := (1 + 0)) rfl (rwl (rwr ln_Mn o_Pl))) rfl hl.1 rfl (Nat.le_of_ble_eq_true rfl) dX10_cost_47 ⟨Nat.zero_le _, Nat.zero_le _⟩ (fun H locs hP hS => ?_)
        obtain ⟨o6, go6, hf⟩ := bd_s hf
        refine rk_Vi (wn := wMn K hMn rMn0 (hRo 99) rMn3 rMn4 (hPl 99) rMn6 rMn7 rMn8 rMn9 rMn10 o6.2 ++ wPl K hPl gPl2 gPl3 sPl ++ wRo K hRo sRo) [wMn K hMn rMn0 (hRo 99) rMn3 rMn4 (hPl 99) rMn6 rMn7 rMn8 rMn9 rMn10 sMn, wPl K hPl gPl2 gPl3 sPl, wRo K hRo sRo] [wMn K hMn rMn0 (hRo 99) rMn3 rMn4 (hPl 99) rMn6 rMn7 rMn8 rMn9 rMn10 sMn] [wMn K hMn rMn0 (hRo 99) rMn3 rMn4 (hPl 99) rMn6 rMn7 rMn8 rMn9 rMn10 o6.2] [wMn K hMn rMn0 (hRo 99) rMn3 rMn4 (hPl 99) rMn6 rMn7 rMn8 rMn9 rMn10 o6.2, wPl K hPl gPl2 gPl3 sPl, wRo K hRo sRo] (As := [.int o5]) (rest := []) ⟨hx, hb, hml, hown, hts⟩ (c_X10_accept l D K F hMn rMn0 (hRo 99) rMn3 rMn4 (hPl 99) rMn6 rMn7 rMn8 rMn9 rMn10 H.size sMn o5 o6 go6) (cwV 1 hts (gcV_X10_accept (mB17 _ (List.mem_of_getElem? (i := 14) rfl))) rfl rfl rfl hdV_X10_accept ⟨Nat.le_of_ble_eq_true rfl, Nat.le_of_ble_eq_true rfl⟩) hK hP hD hS hA [0] (fl3 _ _ _) rfl (by decide) (fl1 _) (fl1 _) rfl rfl (fl3 _ _ _) (va_recv hK hP (ci := 9) (q0 := 0) rfl (rwl (rwl o_Mn))) rfl hl.1 rfl (Nat.le_of_ble_eq_true rfl) dX10_cost_50 ⟨Nat.zero_le _, Nat.zero_le _⟩ (fun H locs hP hD hS => ?_)
        have hP : va_P D vwCl (wMn K hMn rMn0 (hRo 99) rMn3 rMn4 (hPl 99) rMn6 rMn7 rMn8 rMn9 rMn10 o6.2 ++ wPl K hPl gPl2 gPl3 sPl ++ wRo K hRo sRo) H := hP
        have hD : va_D A (wMn K hMn rMn0 (hRo 99) rMn3 rMn4 (hPl 99) rMn6 rMn7 rMn8 rMn9 rMn10 o6.2 ++ wPl K hPl gPl2 gPl3 sPl ++ wRo K hRo sRo) := hD
        have e9 := Option.some.inj hf
        rw [hQ]
        exact W.iret (v := o6.1) hx hb hr (fun t ht hW => ⟨⟨o6.1, o6.2, rfl, ⟨pr1 e9, pr2 e9⟩, ⟨by rw [ht]; exact hP, va_K.moved hW.alike hK, hD⟩⟩, hS.F ht⟩) hS.2.2 dX10_cost_53
      · have hf := it_f hf c4
        refine lv_aload_n hx hb dX10_cost_32 rfl (lv_at hl 0 rfl) ?_
        refine lv_iconst (v := (5 : Int32)) hx hb dX10_cost_33 (by decide) ?_
        obtain ⟨o7, go7, hf⟩ := bd_s hf
        refine rk_Vi (wn := wMn K hMn rMn0 (hRo 99) rMn3 rMn4 (hPl 99) rMn6 rMn7 rMn8 rMn9 rMn10 o7.2 ++ wPl K hPl gPl2 gPl3 sPl ++ wRo K hRo sRo) [wMn K hMn rMn0 (hRo 99) rMn3 rMn4 (hPl 99) rMn6 rMn7 rMn8 rMn9 rMn10 sMn, wPl K hPl gPl2 gPl3 sPl, wRo K hRo sRo] [wMn K hMn rMn0 (hRo 99) rMn3 rMn4 (hPl 99) rMn6 rMn7 rMn8 rMn9 rMn10 sMn] [wMn K hMn rMn0 (hRo 99) rMn3 rMn4 (hPl 99) rMn6 rMn7 rMn8 rMn9 rMn10 o7.2] [wMn K hMn rMn0 (hRo 99) rMn3 rMn4 (hPl 99) rMn6 rMn7 rMn8 rMn9 rMn10 o7.2, wPl K hPl gPl2 gPl3 sPl, wRo K hRo sRo] (As := [.int (5 : Int32)]) (rest := []) ⟨hx, hb, hml, hown, hts⟩ (c_X10_refuse l D K F hMn rMn0 (hRo 99) rMn3 rMn4 (hPl 99) rMn6 rMn7 rMn8 rMn9 rMn10 H.size sMn (5 : Int32) o7 go7) (cwV 1 hts (gcV_X10_refuse (mB7 _ (List.mem_of_getElem? (i := 18) rfl))) rfl rfl rfl hdV_X10_refuse ⟨Nat.le_of_ble_eq_true rfl, Nat.le_of_ble_eq_true rfl⟩) hK hP hD hS hA [0] (fl3 _ _ _) rfl (by decide) (fl1 _) (fl1 _) rfl rfl (fl3 _ _ _) (va_recv hK hP (ci := 9) (q0 := 0) rfl (rwl (rwl o_Mn))) rfl hl.1 rfl (Nat.le_of_ble_eq_true rfl) dX10_cost_34 ⟨Nat.zero_le _, Nat.zero_le _⟩ (fun H locs hP hD hS => ?_)
        have hP : va_P D vwCl (wMn K hMn rMn0 (hRo 99) rMn3 rMn4 (hPl 99) rMn6 rMn7 rMn8 rMn9 rMn10 o7.2 ++ wPl K hPl gPl2 gPl3 sPl ++ wRo K hRo sRo) H := hP
        have hD : va_D A (wMn K hMn rMn0 (hRo 99) rMn3 rMn4 (hPl 99) rMn6 rMn7 rMn8 rMn9 rMn10 o7.2 ++ wPl K hPl gPl2 gPl3 sPl ++ wRo K hRo sRo) := hD
        have e9 := Option.some.inj hf
        rw [hQ]
        exact W.iret (v := o7.1) hx hb hr (fun t ht hW => ⟨⟨o7.1, o7.2, rfl, ⟨pr1 e9, pr2 e9⟩, ⟨by rw [ht]; exact hP, va_K.moved hW.alike hK, hD⟩⟩, hS.F ht⟩) hS.2.2 dX10_cost_37
    · have hf := it_t hf c2
      refine lv_aload_n hx hb dX10_cost_10 rfl (lv_at hl 0 rfl) ?_
      refine lv_iconst (v := (1 : Int32)) hx hb dX10_cost_11 (by decide) ?_
      obtain ⟨o8, go8, hf⟩ := bd_s hf
      refine rk_Vi (wn := wMn K hMn rMn0 (hRo 99) rMn3 rMn4 (hPl 99) rMn6 rMn7 rMn8 rMn9 rMn10 o8.2 ++ wPl K hPl gPl2 gPl3 sPl ++ wRo K hRo sRo) [wMn K hMn rMn0 (hRo 99) rMn3 rMn4 (hPl 99) rMn6 rMn7 rMn8 rMn9 rMn10 sMn, wPl K hPl gPl2 gPl3 sPl, wRo K hRo sRo] [wMn K hMn rMn0 (hRo 99) rMn3 rMn4 (hPl 99) rMn6 rMn7 rMn8 rMn9 rMn10 sMn] [wMn K hMn rMn0 (hRo 99) rMn3 rMn4 (hPl 99) rMn6 rMn7 rMn8 rMn9 rMn10 o8.2] [wMn K hMn rMn0 (hRo 99) rMn3 rMn4 (hPl 99) rMn6 rMn7 rMn8 rMn9 rMn10 o8.2, wPl K hPl gPl2 gPl3 sPl, wRo K hRo sRo] (As := [.int (1 : Int32)]) (rest := []) ⟨hx, hb, hml, hown, hts⟩ (c_X10_refuse l D K F hMn rMn0 (hRo 99) rMn3 rMn4 (hPl 99) rMn6 rMn7 rMn8 rMn9 rMn10 H.size sMn (1 : Int32) o8 go8) (cwV 1 hts (gcV_X10_refuse (mB7 _ (List.mem_of_getElem? (i := 18) rfl))) rfl rfl rfl hdV_X10_refuse ⟨Nat.le_of_ble_eq_true rfl, Nat.le_of_ble_eq_true rfl⟩) hK hP hD hS hA [0] (fl3 _ _ _) rfl (by decide) (fl1 _) (fl1 _) rfl rfl (fl3 _ _ _) (va_recv hK hP (ci := 9) (q0 := 0) rfl (rwl (rwl o_Mn))) rfl hl.1 rfl (Nat.le_of_ble_eq_true rfl) dX10_cost_12 ⟨Nat.zero_le _, Nat.zero_le _⟩ (fun H locs hP hD hS => ?_)
      have hP : va_P D vwCl (wMn K hMn rMn0 (hRo 99) rMn3 rMn4 (hPl 99) rMn6 rMn7 rMn8 rMn9 rMn10 o8.2 ++ wPl K hPl gPl2 gPl3 sPl ++ wRo K hRo sRo) H := hP
      have hD : va_D A (wMn K hMn rMn0 (hRo 99) rMn3 rMn4 (hPl 99) rMn6 rMn7 rMn8 rMn9 rMn10 o8.2 ++ wPl K hPl gPl2 gPl3 sPl ++ wRo K hRo sRo) := hD
      have e9 := Option.some.inj hf
      rw [hQ]
      exact W.iret (v := o8.1) hx hb hr (fun t ht hW => ⟨⟨o8.1, o8.2, rfl, ⟨pr1 e9, pr2 e9⟩, ⟨by rw [ht]; exact hP, va_K.moved hW.alike hK, hD⟩⟩, hS.F ht⟩) hS.2.2 dX10_cost_15
  rw [hHe] at hgo
  exact hgo

def wz_X10_cheapest : List Cond := .code yX10_cheapest cX10_cheapest 1 (some .int) :: wsL_law
abbrev r_X10_cheapest : Room := { frames := 4, cells := 0, slots := 0, locals := 101 }
set_option maxHeartbeats 4000000 in
set_option maxRecDepth 100000 in
theorem c_X10_cheapest (l : Launch) (D : va_G) (K : Nat → ClassId) (F : Nat) (hMn : Nat → Nat) (rMn0 : Nat) (rMn3 : Nat) (rMn4 : Nat) (rMn6 : Nat) (rMn7 : Nat) (rMn8 : Nat) (rMn9 : Nat) (rMn10 : Nat) (hPl : Nat → Nat) (gPl3 : Nat → Nat) (hPc : Nat → Nat) (hRo : Nat → Nat) (sz : Nat) (sMn : MS) (sPl : MS) (sPc : MS) (sRo : MS) (res : Int32 × MS × MS × MS) (hf : f_X10_cheapest F sRo sMn sPl sPc = some res) : Met l yX10_cheapest wz_X10_cheapest r_X10_cheapest (va_Pc [.ref (hMn 99)] (PW D K (wMn K hMn rMn0 (hRo 99) rMn3 rMn4 (hPl 99) rMn6 rMn7 rMn8 rMn9 rMn10 sMn ++ wPl K hPl hPc gPl3 sPl ++ wPc K hPc sPc ++ wRo K hRo sRo) sz)) (va_Qi (fun r u => r = res.1 ∧ u = res.2) (fun u t => BW D K (va_A (wMn K hMn rMn0 (hRo 99) rMn3 rMn4 (hPl 99) rMn6 rMn7 rMn8 rMn9 rMn10 sMn ++ wPl K hPl hPc gPl3 sPl ++ wPc K hPc sPc ++ wRo K hRo sRo) sz) (wMn K hMn rMn0 (hRo 99) rMn3 rMn4 (hPl 99) rMn6 rMn7 rMn8 rMn9 rMn10 u.1 ++ wPl K hPl hPc gPl3 u.2.1 ++ wPc K hPc u.2.2 ++ wRo K hRo sRo) t) (va_A (wMn K hMn rMn0 (hRo 99) rMn3 rMn4 (hPl 99) rMn6 rMn7 rMn8 rMn9 rMn10 sMn ++ wPl K hPl hPc gPl3 sPl ++ wPc K hPc sPc ++ wRo K hRo sRo) sz)) 0 0 (va_A (wMn K hMn rMn0 (hRo 99) rMn3 rMn4 (hPl 99) rMn6 rMn7 rMn8 rMn9 rMn10 sMn ++ wPl K hPl hPc gPl3 sPl ++ wPc K hPc sPc ++ wRo K hRo sRo) sz) := by
  refine Met.ofW (cc := cX10_cheapest) (maxL := 1) (ret := (some .int)) (by decide) rfl ?_
  intro p e s m args below meth c s₁ B hml hv
  obtain ⟨hargs, hsz, hP, hK, hD0⟩ := hv
  have hx := B.exec
  have hb := B.bytes
  have hr := B.returns
  have hts := atoms_spec (ws := wz_X10_cheapest) B.pre
  have htl : ∀ w ∈ wsL_law, w.before args s = true := fun w h => hts w (List.mem_cons_of_mem _ h)
  have hown : s.vm.findClass RX10 = some m.cls := findClass_of_methodNamed B.named
  have hlocks := B.notSynchronized
  subst hsz
  have hD := hD0.self (sz := s.heap.size)
  generalize hAe : va_A (wMn K hMn rMn0 (hRo 99) rMn3 rMn4 (hPl 99) rMn6 rMn7 rMn8 rMn9 rMn10 sMn ++ wPl K hPl hPc gPl3 sPl ++ wPc K hPc sPc ++ wRo K hRo sRo) s.heap.size = A at hD ⊢
  have hA : ∀ q : Nat, s.heap.size ≤ q → A q := fun q h => by rw [← hAe]; exact Or.inr h
  have hS : va_S A s.heap s.heap [] := va_S.rf
  have iX10 : ∀ w ∈ wsX100, w ∈ wz_X10_cheapest := fun w h => List.mem_cons_of_mem _ (inlX10 w h)
  suffices hgo : ∀ Q : State → Prop, Q = MQ below (va_Qi (fun r u => r = res.1 ∧ u = res.2) (fun u t => BW D K A (wMn K hMn rMn0 (hRo 99) rMn3 rMn4 (hPl 99) rMn6 rMn7 rMn8 rMn9 rMn10 u.1 ++ wPl K hPl hPc gPl3 u.2.1 ++ wPc K hPc u.2.2 ++ wRo K hRo sRo) t) A) args s 0 0 A → W p l e (headSpec wz_X10_cheapest r_X10_cheapest).room s m args below meth c s.heap [] 0 0 Q (entryFrame m args 1) from hgo _ rfl
  intro Q hQ
  have hen : entryFrame m args 1 = entryFrame m (([.ref (hMn 99)] : List Value).toArray) 1 := by rw [hargs]
  have hl := lv_entry ([.ref (hMn 99)]) (n := 1) (Nat.le_of_ble_eq_true rfl)
  rw [hen, lg_entry_eq]
  generalize (lg_sl ([.ref (hMn 99)]) ++ List.replicate (1 - (lg_sl ([.ref (hMn 99)])).length) Slot.unset).toArray = ls at hl ⊢
  have hl : lv_has ls 1 [(0, .ref (hMn 99))] := hl
  unfold f_X10_cheapest at hf
  obtain ⟨H, hHe⟩ : ∃ z, z = s.heap := ⟨_, rfl⟩
  obtain ⟨locs, hLe⟩ : ∃ z : List Loc, z = [] := ⟨_, rfl⟩
  rw [← hLe]
  have hS : va_S A s.heap H locs := by rw [hHe, hLe]; exact hS
  have hP : va_P D vwCl (wMn K hMn rMn0 (hRo 99) rMn3 rMn4 (hPl 99) rMn6 rMn7 rMn8 rMn9 rMn10 sMn ++ wPl K hPl hPc gPl3 sPl ++ wPc K hPc sPc ++ wRo K hRo sRo) H := by rw [hHe]; exact hP
  have hgo : W p l e (headSpec wz_X10_cheapest r_X10_cheapest).room s m args below meth c H locs 0 0 Q (F0 m 0 ls []) := by
    refine lv_aload_n hx hb dX10_cheapest_0 rfl (lv_at hl 0 rfl) ?_
    refine va_get (D := D) (ci := 9) (v := .ref (hRo 99)) (C := RX10) (T := TX10) (N := 14) hx hb hts iX10 hown hK hP 0 (rwl (rwl (rwl o_Mn))) rfl 2 (by decide) (htl _ (mB1 _ (List.mem_of_getElem? (i := 18) rfl))) (fun _ h9 => h9) rfl dX10_cheapest_1 ?_
    obtain ⟨o1, go1, hf⟩ := bd_s hf
    refine ro_Vi (As := []) (rest := []) ⟨hx, hb, hml, hown, hts⟩ (c_X9_isTold l D K F hRo sRo o1 go1) (cwV 0 hts (gcV_X9_isTold (mB30 _ (List.mem_of_getElem? (i := 0) rfl))) rfl rfl rfl hdV_X9_isTold ⟨Nat.le_of_ble_eq_true rfl, Nat.le_of_ble_eq_true rfl⟩) hK hP hS (va_PL (cs := [wMn K hMn rMn0 (hRo 99) rMn3 rMn4 (hPl 99) rMn6 rMn7 rMn8 rMn9 rMn10 sMn, wPl K hPl hPc gPl3 sPl, wPc K hPc sPc, wRo K hRo sRo]) (cc := [wRo K hRo sRo]) hP (fl4 _ _ _ _) [3] rfl (fl1 _)) (va_recv hK hP (ci := 8) (q0 := (((1 + 5) + 9) + 0)) rfl (rwr (lnA (lnA ln_Mn ln_Pl) ln_Pc) o_Ro)) rfl hl.1 rfl (Nat.le_of_ble_eq_true rfl) dX10_cheapest_4 ⟨Nat.zero_le _, Nat.zero_le _⟩ (fun H locs hP hS => ?_)
    refine lv_if_ne (tgt := 16) hx hb dX10_cheapest_7 (by decide) (fun c2 => ?_) (fun c2 => ?_)
    · have hf := it_f hf c2
      refine lv_aload_n hx hb dX10_cheapest_16 rfl (lv_at hl 0 rfl) ?_
      refine lv_aload_n hx hb dX10_cheapest_17 rfl (lv_at hl 0 rfl) ?_
      refine va_get (D := D) (ci := 9) (v := .ref (hPl 99)) (C := RX10) (T := TX10) (N := 14) hx hb hts iX10 hown hK hP 0 (rwl (rwl (rwl o_Mn))) rfl 5 (by decide) (htl _ (mB2 _ (List.mem_of_getElem? (i := 3) rfl))) (fun _ h9 => h9) rfl dX10_cheapest_18 ?_
      refine lv_aload_n hx hb dX10_cheapest_21 rfl (lv_at hl 0 rfl) ?_
      refine va_get (D := D) (ci := 9) (v := .ref (hRo 99)) (C := RX10) (T := TX10) (N := 14) hx hb hts iX10 hown hK hP 0 (rwl (rwl (rwl o_Mn))) rfl 2 (by decide) (htl _ (mB1 _ (List.mem_of_getElem? (i := 18) rfl))) (fun _ h9 => h9) rfl dX10_cheapest_22 ?_
      refine lv_iconst (v := (-1 : Int32)) hx hb dX10_cheapest_25 (by decide) ?_
      obtain ⟨o3, go3, hf⟩ := bd_s hf
      refine rk_Vi (wn := wMn K hMn rMn0 (hRo 99) rMn3 rMn4 (hPl 99) rMn6 rMn7 rMn8 rMn9 rMn10 sMn ++ wPl K hPl hPc gPl3 o3.2.1 ++ wPc K hPc o3.2.2 ++ wRo K hRo sRo) [wMn K hMn rMn0 (hRo 99) rMn3 rMn4 (hPl 99) rMn6 rMn7 rMn8 rMn9 rMn10 sMn, wPl K hPl hPc gPl3 sPl, wPc K hPc sPc, wRo K hRo sRo] [wPl K hPl hPc gPl3 sPl, wPc K hPc sPc, wRo K hRo sRo] [wPl K hPl hPc gPl3 o3.2.1, wPc K hPc o3.2.2, wRo K hRo sRo] [wMn K hMn rMn0 (hRo 99) rMn3 rMn4 (hPl 99) rMn6 rMn7 rMn8 rMn9 rMn10 sMn, wPl K hPl hPc gPl3 o3.2.1, wPc K hPc o3.2.2, wRo K hRo sRo] (As := [.ref (hRo 99), .int (-1 : Int32)]) (rest := [.ref (hMn 99)]) ⟨hx, hb, hml, hown, hts⟩ (c_X6_leastCost l D K F hPl gPl3 hPc hRo H.size sPl sPc sRo (-1 : Int32) o3 go3) (cwV 2 hts (gcV_X6_leastCost (mB32 _ (List.mem_of_getElem? (i := 1) rfl))) rfl rfl rfl hdV_X6_leastCost ⟨Nat.le_of_ble_eq_true rfl, Nat.le_of_ble_eq_true rfl⟩) hK hP hD hS hA [1, 2, 3] (fl4 _ _ _ _) rfl (by decide) (fl3 _ _ _) (fl3 _ _ _) rfl rfl (fl4 _ _ _ _) (va_recv hK hP (ci := 5) (q0 := (1 + 0)) rfl (rwl (rwl (rwr ln_Mn o_Pl)))) rfl hl.1 rfl (Nat.le_of_ble_eq_true rfl) dX10_cheapest_26 ⟨Nat.zero_le _, Nat.zero_le _⟩ (fun H locs hP hD hS => ?_)
      have hP : va_P D vwCl (wMn K hMn rMn0 (hRo 99) rMn3 rMn4 (hPl 99) rMn6 rMn7 rMn8 rMn9 rMn10 sMn ++ wPl K hPl hPc gPl3 o3.2.1 ++ wPc K hPc o3.2.2 ++ wRo K hRo sRo) H := hP
      have hD : va_D A (wMn K hMn rMn0 (hRo 99) rMn3 rMn4 (hPl 99) rMn6 rMn7 rMn8 rMn9 rMn10 sMn ++ wPl K hPl hPc gPl3 o3.2.1 ++ wPc K hPc o3.2.2 ++ wRo K hRo sRo) := hD
      obtain ⟨o4, go4, hf⟩ := bd_s hf
      refine rk_Vi (wn := wMn K hMn rMn0 (hRo 99) rMn3 rMn4 (hPl 99) rMn6 rMn7 rMn8 rMn9 rMn10 o4.2 ++ wPl K hPl hPc gPl3 o3.2.1 ++ wPc K hPc o3.2.2 ++ wRo K hRo sRo) [wMn K hMn rMn0 (hRo 99) rMn3 rMn4 (hPl 99) rMn6 rMn7 rMn8 rMn9 rMn10 sMn, wPl K hPl hPc gPl3 o3.2.1, wPc K hPc o3.2.2, wRo K hRo sRo] [wMn K hMn rMn0 (hRo 99) rMn3 rMn4 (hPl 99) rMn6 rMn7 rMn8 rMn9 rMn10 sMn] [wMn K hMn rMn0 (hRo 99) rMn3 rMn4 (hPl 99) rMn6 rMn7 rMn8 rMn9 rMn10 o4.2] [wMn K hMn rMn0 (hRo 99) rMn3 rMn4 (hPl 99) rMn6 rMn7 rMn8 rMn9 rMn10 o4.2, wPl K hPl hPc gPl3 o3.2.1, wPc K hPc o3.2.2, wRo K hRo sRo] (As := [.int o3.1]) (rest := []) ⟨hx, hb, hml, hown, hts⟩ (c_X10_accept l D K F hMn rMn0 (hRo 99) rMn3 rMn4 (hPl 99) rMn6 rMn7 rMn8 rMn9 rMn10 H.size sMn o3.1 o4 go4) (cwV 1 hts (gcV_X10_accept (mB17 _ (List.mem_of_getElem? (i := 14) rfl))) rfl rfl rfl hdV_X10_accept ⟨Nat.le_of_ble_eq_true rfl, Nat.le_of_ble_eq_true rfl⟩) hK hP hD hS hA [0] (fl4 _ _ _ _) rfl (by decide) (fl1 _) (fl1 _) rfl rfl (fl4 _ _ _ _) (va_recv hK hP (ci := 9) (q0 := 0) rfl (rwl (rwl (rwl o_Mn)))) rfl hl.1 rfl (Nat.le_of_ble_eq_true rfl) dX10_cheapest_29 ⟨Nat.zero_le _, Nat.zero_le _⟩ (fun H locs hP hD hS => ?_)
      have hP : va_P D vwCl (wMn K hMn rMn0 (hRo 99) rMn3 rMn4 (hPl 99) rMn6 rMn7 rMn8 rMn9 rMn10 o4.2 ++ wPl K hPl hPc gPl3 o3.2.1 ++ wPc K hPc o3.2.2 ++ wRo K hRo sRo) H := hP
      have hD : va_D A (wMn K hMn rMn0 (hRo 99) rMn3 rMn4 (hPl 99) rMn6 rMn7 rMn8 rMn9 rMn10 o4.2 ++ wPl K hPl hPc gPl3 o3.2.1 ++ wPc K hPc o3.2.2 ++ wRo K hRo sRo) := hD
      have e9 := Option.some.inj hf
      rw [hQ]
      exact W.iret (v := o4.1) hx hb hr (fun t ht hW => ⟨⟨o4.1, (o4.2, o3.2.1, o3.2.2), rfl, ⟨pr1 e9, pr2 e9⟩, ⟨by rw [ht]; exact hP, va_K.moved hW.alike hK, hD⟩⟩, hS.F ht⟩) hS.2.2 dX10_cheapest_32
    · have hf := it_t hf c2
      refine lv_aload_n hx hb dX10_cheapest_10 rfl (lv_at hl 0 rfl) ?_
      refine lv_iconst (v := (1 : Int32)) hx hb dX10_cheapest_11 (by decide) ?_
      obtain ⟨o5, go5, hf⟩ := bd_s hf
      refine rk_Vi (wn := wMn K hMn rMn0 (hRo 99) rMn3 rMn4 (hPl 99) rMn6 rMn7 rMn8 rMn9 rMn10 o5.2 ++ wPl K hPl hPc gPl3 sPl ++ wPc K hPc sPc ++ wRo K hRo sRo) [wMn K hMn rMn0 (hRo 99) rMn3 rMn4 (hPl 99) rMn6 rMn7 rMn8 rMn9 rMn10 sMn, wPl K hPl hPc gPl3 sPl, wPc K hPc sPc, wRo K hRo sRo] [wMn K hMn rMn0 (hRo 99) rMn3 rMn4 (hPl 99) rMn6 rMn7 rMn8 rMn9 rMn10 sMn] [wMn K hMn rMn0 (hRo 99) rMn3 rMn4 (hPl 99) rMn6 rMn7 rMn8 rMn9 rMn10 o5.2] [wMn K hMn rMn0 (hRo 99) rMn3 rMn4 (hPl 99) rMn6 rMn7 rMn8 rMn9 rMn10 o5.2, wPl K hPl hPc gPl3 sPl, wPc K hPc sPc, wRo K hRo sRo] (As := [.int (1 : Int32)]) (rest := []) ⟨hx, hb, hml, hown, hts⟩ (c_X10_refuse l D K F hMn rMn0 (hRo 99) rMn3 rMn4 (hPl 99) rMn6 rMn7 rMn8 rMn9 rMn10 H.size sMn (1 : Int32) o5 go5) (cwV 1 hts (gcV_X10_refuse (mB7 _ (List.mem_of_getElem? (i := 18) rfl))) rfl rfl rfl hdV_X10_refuse ⟨Nat.le_of_ble_eq_true rfl, Nat.le_of_ble_eq_true rfl⟩) hK hP hD hS hA [0] (fl4 _ _ _ _) rfl (by decide) (fl1 _) (fl1 _) rfl rfl (fl4 _ _ _ _) (va_recv hK hP (ci := 9) (q0 := 0) rfl (rwl (rwl (rwl o_Mn)))) rfl hl.1 rfl (Nat.le_of_ble_eq_true rfl) dX10_cheapest_12 ⟨Nat.zero_le _, Nat.zero_le _⟩ (fun H locs hP hD hS => ?_)
      have hP : va_P D vwCl (wMn K hMn rMn0 (hRo 99) rMn3 rMn4 (hPl 99) rMn6 rMn7 rMn8 rMn9 rMn10 o5.2 ++ wPl K hPl hPc gPl3 sPl ++ wPc K hPc sPc ++ wRo K hRo sRo) H := hP
      have hD : va_D A (wMn K hMn rMn0 (hRo 99) rMn3 rMn4 (hPl 99) rMn6 rMn7 rMn8 rMn9 rMn10 o5.2 ++ wPl K hPl hPc gPl3 sPl ++ wPc K hPc sPc ++ wRo K hRo sRo) := hD
      have e9 := Option.some.inj hf
      rw [hQ]
      exact W.iret (v := o5.1) hx hb hr (fun t ht hW => ⟨⟨o5.1, (o5.2, sPl, sPc), rfl, ⟨pr1 e9, pr2 e9⟩, ⟨by rw [ht]; exact hP, va_K.moved hW.alike hK, hD⟩⟩, hS.F ht⟩) hS.2.2 dX10_cheapest_15
  rw [hHe] at hgo
  exact hgo

theorem gcV_X6_cheapestPints {T0 : Cond} {own : String} {i : Nat} (h : Cond.methodLink own i yX6_cheapestPints ∈ wsL_law) : GoodIn (T0 :: wsL_law) (wsV own i RX6 yX6_cheapestPints wz_X6_cheapestPints) := gV h (mB34 _ (List.mem_of_getElem? (i := 3) rfl)) (mB34 _ (List.mem_of_getElem? (i := 4) rfl)) (mB2 _ (List.mem_of_getElem? (i := 2) rfl)) (mB34 _ (List.mem_of_getElem? (i := 5) rfl))
theorem hdV_X6_cheapestPints : yX6_cheapestPints.cls = RX6 ∧ yX6_cheapestPints.cls ≠ "java/lang/invoke/MethodHandle" ∧ yX6_cheapestPints.cls ≠ "java/lang/invoke/VarHandle" ∧ (parseMethodDescriptor yX6_cheapestPints.desc).map (fun d => d.parameters.length) = some 2 := by decide +kernel
def wz_X10_how : List Cond := .code yX10_how cX10_how 2 (some .int) :: wsL_law
abbrev r_X10_how : Room := { frames := 5, cells := 0, slots := 0, locals := 124 }
set_option maxHeartbeats 4000000 in
set_option maxRecDepth 100000 in
theorem c_X10_how (l : Launch) (D : va_G) (K : Nat → ClassId) (F : Nat) (hMn : Nat → Nat) (rMn0 : Nat) (rMn3 : Nat) (rMn4 : Nat) (rMn6 : Nat) (rMn7 : Nat) (rMn8 : Nat) (rMn9 : Nat) (rMn10 : Nat) (hPl : Nat → Nat) (gPl3 : Nat → Nat) (hPc : Nat → Nat) (hRo : Nat → Nat) (sz : Nat) (sMn : MS) (sPl : MS) (sPc : MS) (sRo : MS) (p1 : Int32) (res : Int32 × MS × MS × MS) (hf : f_X10_how F sRo p1 sMn sPl sPc = some res) : Met l yX10_how wz_X10_how r_X10_how (va_Pc [.ref (hMn 99), .int p1] (PW D K (wMn K hMn rMn0 (hRo 99) rMn3 rMn4 (hPl 99) rMn6 rMn7 rMn8 rMn9 rMn10 sMn ++ wPl K hPl hPc gPl3 sPl ++ wPc K hPc sPc ++ wRo K hRo sRo) sz)) (va_Qi (fun r u => r = res.1 ∧ u = res.2) (fun u t => BW D K (va_A (wMn K hMn rMn0 (hRo 99) rMn3 rMn4 (hPl 99) rMn6 rMn7 rMn8 rMn9 rMn10 sMn ++ wPl K hPl hPc gPl3 sPl ++ wPc K hPc sPc ++ wRo K hRo sRo) sz) (wMn K hMn rMn0 (hRo 99) rMn3 rMn4 (hPl 99) rMn6 rMn7 rMn8 rMn9 rMn10 u.1 ++ wPl K hPl hPc gPl3 u.2.1 ++ wPc K hPc u.2.2 ++ wRo K hRo sRo) t) (va_A (wMn K hMn rMn0 (hRo 99) rMn3 rMn4 (hPl 99) rMn6 rMn7 rMn8 rMn9 rMn10 sMn ++ wPl K hPl hPc gPl3 sPl ++ wPc K hPc sPc ++ wRo K hRo sRo) sz)) 0 0 (va_A (wMn K hMn rMn0 (hRo 99) rMn3 rMn4 (hPl 99) rMn6 rMn7 rMn8 rMn9 rMn10 sMn ++ wPl K hPl hPc gPl3 sPl ++ wPc K hPc sPc ++ wRo K hRo sRo) sz) := by
  refine Met.ofW (cc := cX10_how) (maxL := 2) (ret := (some .int)) (by decide) rfl ?_
  intro p e s m args below meth c s₁ B hml hv
  obtain ⟨hargs, hsz, hP, hK, hD0⟩ := hv
  have hx := B.exec
  have hb := B.bytes
  have hr := B.returns
  have hts := atoms_spec (ws := wz_X10_how) B.pre
  have htl : ∀ w ∈ wsL_law, w.before args s = true := fun w h => hts w (List.mem_cons_of_mem _ h)
  have hown : s.vm.findClass RX10 = some m.cls := findClass_of_methodNamed B.named
  have hlocks := B.notSynchronized
  subst hsz
  have hD := hD0.self (sz := s.heap.size)
  generalize hAe : va_A (wMn K hMn rMn0 (hRo 99) rMn3 rMn4 (hPl 99) rMn6 rMn7 rMn8 rMn9 rMn10 sMn ++ wPl K hPl hPc gPl3 sPl ++ wPc K hPc sPc ++ wRo K hRo sRo) s.heap.size = A at hD ⊢
  have hA : ∀ q : Nat, s.heap.size ≤ q → A q := fun q h => by rw [← hAe]; exact Or.inr h
  have hS : va_S A s.heap s.heap [] := va_S.rf
  have iX10 : ∀ w ∈ wsX100, w ∈ wz_X10_how := fun w h => List.mem_cons_of_mem _ (inlX10 w h)
  suffices hgo : ∀ Q : State → Prop, Q = MQ below (va_Qi (fun r u => r = res.1 ∧ u = res.2) (fun u t => BW D K A (wMn K hMn rMn0 (hRo 99) rMn3 rMn4 (hPl 99) rMn6 rMn7 rMn8 rMn9 rMn10 u.1 ++ wPl K hPl hPc gPl3 u.2.1 ++ wPc K hPc u.2.2 ++ wRo K hRo sRo) t) A) args s 0 0 A → W p l e (headSpec wz_X10_how r_X10_how).room s m args below meth c s.heap [] 0 0 Q (entryFrame m args 2) from hgo _ rfl
  intro Q hQ
  have hen : entryFrame m args 2 = entryFrame m (([.ref (hMn 99), .int p1] : List Value).toArray) 2 := by rw [hargs]
  have hl := lv_entry ([.ref (hMn 99), .int p1]) (n := 2) (Nat.le_of_ble_eq_true rfl)
  rw [hen, lg_entry_eq]
  generalize (lg_sl ([.ref (hMn 99), .int p1]) ++ List.replicate (2 - (lg_sl ([.ref (hMn 99), .int p1])).length) Slot.unset).toArray = ls at hl ⊢
  have hl : lv_has ls 2 [(0, .ref (hMn 99)), (1, .int p1)] := hl
  unfold f_X10_how at hf
  obtain ⟨H, hHe⟩ : ∃ z, z = s.heap := ⟨_, rfl⟩
  obtain ⟨locs, hLe⟩ : ∃ z : List Loc, z = [] := ⟨_, rfl⟩
  rw [← hLe]
  have hS : va_S A s.heap H locs := by rw [hHe, hLe]; exact hS
  have hP : va_P D vwCl (wMn K hMn rMn0 (hRo 99) rMn3 rMn4 (hPl 99) rMn6 rMn7 rMn8 rMn9 rMn10 sMn ++ wPl K hPl hPc gPl3 sPl ++ wPc K hPc sPc ++ wRo K hRo sRo) H := by rw [hHe]; exact hP
  have hgo : W p l e (headSpec wz_X10_how r_X10_how).room s m args below meth c H locs 0 0 Q (F0 m 0 ls []) := by
    refine lv_aload_n hx hb dX10_how_0 rfl (lv_at hl 0 rfl) ?_
    refine va_get (D := D) (ci := 9) (v := .ref (hRo 99)) (C := RX10) (T := TX10) (N := 14) hx hb hts iX10 hown hK hP 0 (rwl (rwl (rwl o_Mn))) rfl 2 (by decide) (htl _ (mB1 _ (List.mem_of_getElem? (i := 18) rfl))) (fun _ h9 => h9) rfl dX10_how_1 ?_
    refine lv_iload_n hx hb dX10_how_4 rfl (lv_at hl 1 rfl) ?_
    obtain ⟨o1, go1, hf⟩ := bd_s hf
    refine ro_Vi (As := [.int p1]) (rest := []) ⟨hx, hb, hml, hown, hts⟩ (c_X9_isLeft l D K F hRo sRo p1 o1 go1) (cwV 1 hts (gcV_X9_isLeft (mB28 _ (List.mem_of_getElem? (i := 20) rfl))) rfl rfl rfl hdV_X9_isLeft ⟨Nat.le_of_ble_eq_true rfl, Nat.le_of_ble_eq_true rfl⟩) hK hP hS (va_PL (cs := [wMn K hMn rMn0 (hRo 99) rMn3 rMn4 (hPl 99) rMn6 rMn7 rMn8 rMn9 rMn10 sMn, wPl K hPl hPc gPl3 sPl, wPc K hPc sPc, wRo K hRo sRo]) (cc := [wRo K hRo sRo]) hP (fl4 _ _ _ _) [3] rfl (fl1 _)) (va_recv hK hP (ci := 8) (q0 := (((1 + 5) + 9) + 0)) rfl (rwr (lnA (lnA ln_Mn ln_Pl) ln_Pc) o_Ro)) rfl hl.1 rfl (Nat.le_of_ble_eq_true rfl) dX10_how_5 ⟨Nat.zero_le _, Nat.zero_le _⟩ (fun H locs hP hS => ?_)
    refine lv_if_ne (tgt := 17) hx hb dX10_how_8 (by decide) (fun c2 => ?_) (fun c2 => ?_)
    · have hf := it_f hf c2
      refine lv_aload_n hx hb dX10_how_17 rfl (lv_at hl 0 rfl) ?_
      refine lv_aload_n hx hb dX10_how_18 rfl (lv_at hl 0 rfl) ?_
      refine va_get (D := D) (ci := 9) (v := .ref (hPl 99)) (C := RX10) (T := TX10) (N := 14) hx hb hts iX10 hown hK hP 0 (rwl (rwl (rwl o_Mn))) rfl 5 (by decide) (htl _ (mB2 _ (List.mem_of_getElem? (i := 3) rfl))) (fun _ h9 => h9) rfl dX10_how_19 ?_
      refine lv_aload_n hx hb dX10_how_22 rfl (lv_at hl 0 rfl) ?_
      refine va_get (D := D) (ci := 9) (v := .ref (hRo 99)) (C := RX10) (T := TX10) (N := 14) hx hb hts iX10 hown hK hP 0 (rwl (rwl (rwl o_Mn))) rfl 2 (by decide) (htl _ (mB1 _ (List.mem_of_getElem? (i := 18) rfl))) (fun _ h9 => h9) rfl dX10_how_23 ?_
      refine lv_iload_n hx hb dX10_how_26 rfl (lv_at hl 1 rfl) ?_
      obtain ⟨o3, go3, hf⟩ := bd_s hf
      refine rk_Vi (wn := wMn K hMn rMn0 (hRo 99) rMn3 rMn4 (hPl 99) rMn6 rMn7 rMn8 rMn9 rMn10 sMn ++ wPl K hPl hPc gPl3 o3.2.1 ++ wPc K hPc o3.2.2 ++ wRo K hRo sRo) [wMn K hMn rMn0 (hRo 99) rMn3 rMn4 (hPl 99) rMn6 rMn7 rMn8 rMn9 rMn10 sMn, wPl K hPl hPc gPl3 sPl, wPc K hPc sPc, wRo K hRo sRo] [wPl K hPl hPc gPl3 sPl, wPc K hPc sPc, wRo K hRo sRo] [wPl K hPl hPc gPl3 o3.2.1, wPc K hPc o3.2.2, wRo K hRo sRo] [wMn K hMn rMn0 (hRo 99) rMn3 rMn4 (hPl 99) rMn6 rMn7 rMn8 rMn9 rMn10 sMn, wPl K hPl hPc gPl3 o3.2.1, wPc K hPc o3.2.2, wRo K hRo sRo] (As := [.ref (hRo 99), .int p1]) (rest := [.ref (hMn 99)]) ⟨hx, hb, hml, hown, hts⟩ (c_X6_cheapestPints l D K F hPl gPl3 hPc hRo H.size sPl sPc sRo p1 o3 go3) (cwV 2 hts (gcV_X6_cheapestPints (mB34 _ (List.mem_of_getElem? (i := 2) rfl))) rfl rfl rfl hdV_X6_cheapestPints ⟨Nat.le_of_ble_eq_true rfl, Nat.le_of_ble_eq_true rfl⟩) hK hP hD hS hA [1, 2, 3] (fl4 _ _ _ _) rfl (by decide) (fl3 _ _ _) (fl3 _ _ _) rfl rfl (fl4 _ _ _ _) (va_recv hK hP (ci := 5) (q0 := (1 + 0)) rfl (rwl (rwl (rwr ln_Mn o_Pl)))) rfl hl.1 rfl (Nat.le_of_ble_eq_true rfl) dX10_how_27 ⟨Nat.zero_le _, Nat.zero_le _⟩ (fun H locs hP hD hS => ?_)
      have hP : va_P D vwCl (wMn K hMn rMn0 (hRo 99) rMn3 rMn4 (hPl 99) rMn6 rMn7 rMn8 rMn9 rMn10 sMn ++ wPl K hPl hPc gPl3 o3.2.1 ++ wPc K hPc o3.2.2 ++ wRo K hRo sRo) H := hP
      have hD : va_D A (wMn K hMn rMn0 (hRo 99) rMn3 rMn4 (hPl 99) rMn6 rMn7 rMn8 rMn9 rMn10 sMn ++ wPl K hPl hPc gPl3 o3.2.1 ++ wPc K hPc o3.2.2 ++ wRo K hRo sRo) := hD
      obtain ⟨o4, go4, hf⟩ := bd_s hf
      refine rk_Vi (wn := wMn K hMn rMn0 (hRo 99) rMn3 rMn4 (hPl 99) rMn6 rMn7 rMn8 rMn9 rMn10 o4.2 ++ wPl K hPl hPc gPl3 o3.2.1 ++ wPc K hPc o3.2.2 ++ wRo K hRo sRo) [wMn K hMn rMn0 (hRo 99) rMn3 rMn4 (hPl 99) rMn6 rMn7 rMn8 rMn9 rMn10 sMn, wPl K hPl hPc gPl3 o3.2.1, wPc K hPc o3.2.2, wRo K hRo sRo] [wMn K hMn rMn0 (hRo 99) rMn3 rMn4 (hPl 99) rMn6 rMn7 rMn8 rMn9 rMn10 sMn] [wMn K hMn rMn0 (hRo 99) rMn3 rMn4 (hPl 99) rMn6 rMn7 rMn8 rMn9 rMn10 o4.2] [wMn K hMn rMn0 (hRo 99) rMn3 rMn4 (hPl 99) rMn6 rMn7 rMn8 rMn9 rMn10 o4.2, wPl K hPl hPc gPl3 o3.2.1, wPc K hPc o3.2.2, wRo K hRo sRo] (As := [.int o3.1]) (rest := []) ⟨hx, hb, hml, hown, hts⟩ (c_X10_accept l D K F hMn rMn0 (hRo 99) rMn3 rMn4 (hPl 99) rMn6 rMn7 rMn8 rMn9 rMn10 H.size sMn o3.1 o4 go4) (cwV 1 hts (gcV_X10_accept (mB17 _ (List.mem_of_getElem? (i := 14) rfl))) rfl rfl rfl hdV_X10_accept ⟨Nat.le_of_ble_eq_true rfl, Nat.le_of_ble_eq_true rfl⟩) hK hP hD hS hA [0] (fl4 _ _ _ _) rfl (by decide) (fl1 _) (fl1 _) rfl rfl (fl4 _ _ _ _) (va_recv hK hP (ci := 9) (q0 := 0) rfl (rwl (rwl (rwl o_Mn)))) rfl hl.1 rfl (Nat.le_of_ble_eq_true rfl) dX10_how_30 ⟨Nat.zero_le _, Nat.zero_le _⟩ (fun H locs hP hD hS => ?_)
      have hP : va_P D vwCl (wMn K hMn rMn0 (hRo 99) rMn3 rMn4 (hPl 99) rMn6 rMn7 rMn8 rMn9 rMn10 o4.2 ++ wPl K hPl hPc gPl3 o3.2.1 ++ wPc K hPc o3.2.2 ++ wRo K hRo sRo) H := hP
      have hD : va_D A (wMn K hMn rMn0 (hRo 99) rMn3 rMn4 (hPl 99) rMn6 rMn7 rMn8 rMn9 rMn10 o4.2 ++ wPl K hPl hPc gPl3 o3.2.1 ++ wPc K hPc o3.2.2 ++ wRo K hRo sRo) := hD
      have e9 := Option.some.inj hf
      rw [hQ]
      exact W.iret (v := o4.1) hx hb hr (fun t ht hW => ⟨⟨o4.1, (o4.2, o3.2.1, o3.2.2), rfl, ⟨pr1 e9, pr2 e9⟩, ⟨by rw [ht]; exact hP, va_K.moved hW.alike hK, hD⟩⟩, hS.F ht⟩) hS.2.2 dX10_how_33
    · have hf := it_t hf c2
      refine lv_aload_n hx hb dX10_how_11 rfl (lv_at hl 0 rfl) ?_
      refine lv_iconst (v := (1 : Int32)) hx hb dX10_how_12 (by decide) ?_
      obtain ⟨o5, go5, hf⟩ := bd_s hf
      refine rk_Vi (wn := wMn K hMn rMn0 (hRo 99) rMn3 rMn4 (hPl 99) rMn6 rMn7 rMn8 rMn9 rMn10 o5.2 ++ wPl K hPl hPc gPl3 sPl ++ wPc K hPc sPc ++ wRo K hRo sRo) [wMn K hMn rMn0 (hRo 99) rMn3 rMn4 (hPl 99) rMn6 rMn7 rMn8 rMn9 rMn10 sMn, wPl K hPl hPc gPl3 sPl, wPc K hPc sPc, wRo K hRo sRo] [wMn K hMn rMn0 (hRo 99) rMn3 rMn4 (hPl 99) rMn6 rMn7 rMn8 rMn9 rMn10 sMn] [wMn K hMn rMn0 (hRo 99) rMn3 rMn4 (hPl 99) rMn6 rMn7 rMn8 rMn9 rMn10 o5.2] [wMn K hMn rMn0 (hRo 99) rMn3 rMn4 (hPl 99) rMn6 rMn7 rMn8 rMn9 rMn10 o5.2, wPl K hPl hPc gPl3 sPl, wPc K hPc sPc, wRo K hRo sRo] (As := [.int (1 : Int32)]) (rest := []) ⟨hx, hb, hml, hown, hts⟩ (c_X10_refuse l D K F hMn rMn0 (hRo 99) rMn3 rMn4 (hPl 99) rMn6 rMn7 rMn8 rMn9 rMn10 H.size sMn (1 : Int32) o5 go5) (cwV 1 hts (gcV_X10_refuse (mB7 _ (List.mem_of_getElem? (i := 18) rfl))) rfl rfl rfl hdV_X10_refuse ⟨Nat.le_of_ble_eq_true rfl, Nat.le_of_ble_eq_true rfl⟩) hK hP hD hS hA [0] (fl4 _ _ _ _) rfl (by decide) (fl1 _) (fl1 _) rfl rfl (fl4 _ _ _ _) (va_recv hK hP (ci := 9) (q0 := 0) rfl (rwl (rwl (rwl o_Mn)))) rfl hl.1 rfl (Nat.le_of_ble_eq_true rfl) dX10_how_13 ⟨Nat.zero_le _, Nat.zero_le _⟩ (fun H locs hP hD hS => ?_)
      have hP : va_P D vwCl (wMn K hMn rMn0 (hRo 99) rMn3 rMn4 (hPl 99) rMn6 rMn7 rMn8 rMn9 rMn10 o5.2 ++ wPl K hPl hPc gPl3 sPl ++ wPc K hPc sPc ++ wRo K hRo sRo) H := hP
      have hD : va_D A (wMn K hMn rMn0 (hRo 99) rMn3 rMn4 (hPl 99) rMn6 rMn7 rMn8 rMn9 rMn10 o5.2 ++ wPl K hPl hPc gPl3 sPl ++ wPc K hPc sPc ++ wRo K hRo sRo) := hD
      have e9 := Option.some.inj hf
      rw [hQ]
      exact W.iret (v := o5.1) hx hb hr (fun t ht hW => ⟨⟨o5.1, (o5.2, sPl, sPc), rfl, ⟨pr1 e9, pr2 e9⟩, ⟨by rw [ht]; exact hP, va_K.moved hW.alike hK, hD⟩⟩, hS.F ht⟩) hS.2.2 dX10_how_16
  rw [hHe] at hgo
  exact hgo

theorem gcV_X6_fewestStops {T0 : Cond} {own : String} {i : Nat} (h : Cond.methodLink own i yX6_fewestStops ∈ wsL_law) : GoodIn (T0 :: wsL_law) (wsV own i RX6 yX6_fewestStops wz_X6_fewestStops) := gV h (mB34 _ (List.mem_of_getElem? (i := 21) rfl)) (mB34 _ (List.mem_of_getElem? (i := 22) rfl)) (mB2 _ (List.mem_of_getElem? (i := 2) rfl)) (mB34 _ (List.mem_of_getElem? (i := 23) rfl))
theorem hdV_X6_fewestStops : yX6_fewestStops.cls = RX6 ∧ yX6_fewestStops.cls ≠ "java/lang/invoke/MethodHandle" ∧ yX6_fewestStops.cls ≠ "java/lang/invoke/VarHandle" ∧ (parseMethodDescriptor yX6_fewestStops.desc).map (fun d => d.parameters.length) = some 1 := by decide +kernel
def wz_X10_fewest : List Cond := .code yX10_fewest cX10_fewest 1 (some .int) :: wsL_law
abbrev r_X10_fewest : Room := { frames := 4, cells := 0, slots := 0, locals := 95 }
set_option maxHeartbeats 4000000 in
set_option maxRecDepth 100000 in
theorem c_X10_fewest (l : Launch) (D : va_G) (K : Nat → ClassId) (F : Nat) (hMn : Nat → Nat) (rMn0 : Nat) (rMn3 : Nat) (rMn4 : Nat) (rMn6 : Nat) (rMn7 : Nat) (rMn8 : Nat) (rMn9 : Nat) (rMn10 : Nat) (hPl : Nat → Nat) (gPl2 : Nat → Nat) (hPb : Nat → Nat) (hRo : Nat → Nat) (sz : Nat) (sMn : MS) (sPl : MS) (sPb : MS) (sRo : MS) (res : Int32 × MS × MS) (hf : f_X10_fewest F sPl sRo sMn sPb = some res) : Met l yX10_fewest wz_X10_fewest r_X10_fewest (va_Pc [.ref (hMn 99)] (PW D K (wMn K hMn rMn0 (hRo 99) rMn3 rMn4 (hPl 99) rMn6 rMn7 rMn8 rMn9 rMn10 sMn ++ wPl K hPl gPl2 hPb sPl ++ wPb K hPb sPb ++ wRo K hRo sRo) sz)) (va_Qi (fun r u => r = res.1 ∧ u = res.2) (fun u t => BW D K (va_A (wMn K hMn rMn0 (hRo 99) rMn3 rMn4 (hPl 99) rMn6 rMn7 rMn8 rMn9 rMn10 sMn ++ wPl K hPl gPl2 hPb sPl ++ wPb K hPb sPb ++ wRo K hRo sRo) sz) (wMn K hMn rMn0 (hRo 99) rMn3 rMn4 (hPl 99) rMn6 rMn7 rMn8 rMn9 rMn10 u.1 ++ wPl K hPl gPl2 hPb sPl ++ wPb K hPb u.2 ++ wRo K hRo sRo) t) (va_A (wMn K hMn rMn0 (hRo 99) rMn3 rMn4 (hPl 99) rMn6 rMn7 rMn8 rMn9 rMn10 sMn ++ wPl K hPl gPl2 hPb sPl ++ wPb K hPb sPb ++ wRo K hRo sRo) sz)) 0 0 (va_A (wMn K hMn rMn0 (hRo 99) rMn3 rMn4 (hPl 99) rMn6 rMn7 rMn8 rMn9 rMn10 sMn ++ wPl K hPl gPl2 hPb sPl ++ wPb K hPb sPb ++ wRo K hRo sRo) sz) := by
  refine Met.ofW (cc := cX10_fewest) (maxL := 1) (ret := (some .int)) (by decide) rfl ?_
  intro p e s m args below meth c s₁ B hml hv
  obtain ⟨hargs, hsz, hP, hK, hD0⟩ := hv
  have hx := B.exec
  have hb := B.bytes
  have hr := B.returns
  have hts := atoms_spec (ws := wz_X10_fewest) B.pre
  have htl : ∀ w ∈ wsL_law, w.before args s = true := fun w h => hts w (List.mem_cons_of_mem _ h)
  have hown : s.vm.findClass RX10 = some m.cls := findClass_of_methodNamed B.named
  have hlocks := B.notSynchronized
  subst hsz
  have hD := hD0.self (sz := s.heap.size)
  generalize hAe : va_A (wMn K hMn rMn0 (hRo 99) rMn3 rMn4 (hPl 99) rMn6 rMn7 rMn8 rMn9 rMn10 sMn ++ wPl K hPl gPl2 hPb sPl ++ wPb K hPb sPb ++ wRo K hRo sRo) s.heap.size = A at hD ⊢
  have hA : ∀ q : Nat, s.heap.size ≤ q → A q := fun q h => by rw [← hAe]; exact Or.inr h
  have hS : va_S A s.heap s.heap [] := va_S.rf
  have iX10 : ∀ w ∈ wsX100, w ∈ wz_X10_fewest := fun w h => List.mem_cons_of_mem _ (inlX10 w h)
  suffices hgo : ∀ Q : State → Prop, Q = MQ below (va_Qi (fun r u => r = res.1 ∧ u = res.2) (fun u t => BW D K A (wMn K hMn rMn0 (hRo 99) rMn3 rMn4 (hPl 99) rMn6 rMn7 rMn8 rMn9 rMn10 u.1 ++ wPl K hPl gPl2 hPb sPl ++ wPb K hPb u.2 ++ wRo K hRo sRo) t) A) args s 0 0 A → W p l e (headSpec wz_X10_fewest r_X10_fewest).room s m args below meth c s.heap [] 0 0 Q (entryFrame m args 1) from hgo _ rfl
  intro Q hQ
  have hen : entryFrame m args 1 = entryFrame m (([.ref (hMn 99)] : List Value).toArray) 1 := by rw [hargs]
  have hl := lv_entry ([.ref (hMn 99)]) (n := 1) (Nat.le_of_ble_eq_true rfl)
  rw [hen, lg_entry_eq]
  generalize (lg_sl ([.ref (hMn 99)]) ++ List.replicate (1 - (lg_sl ([.ref (hMn 99)])).length) Slot.unset).toArray = ls at hl ⊢
  have hl : lv_has ls 1 [(0, .ref (hMn 99))] := hl
  unfold f_X10_fewest at hf
  obtain ⟨H, hHe⟩ : ∃ z, z = s.heap := ⟨_, rfl⟩
  obtain ⟨locs, hLe⟩ : ∃ z : List Loc, z = [] := ⟨_, rfl⟩
  rw [← hLe]
  have hS : va_S A s.heap H locs := by rw [hHe, hLe]; exact hS
  have hP : va_P D vwCl (wMn K hMn rMn0 (hRo 99) rMn3 rMn4 (hPl 99) rMn6 rMn7 rMn8 rMn9 rMn10 sMn ++ wPl K hPl gPl2 hPb sPl ++ wPb K hPb sPb ++ wRo K hRo sRo) H := by rw [hHe]; exact hP
  have hgo : W p l e (headSpec wz_X10_fewest r_X10_fewest).room s m args below meth c H locs 0 0 Q (F0 m 0 ls []) := by
    refine lv_aload_n hx hb dX10_fewest_0 rfl (lv_at hl 0 rfl) ?_
    refine va_get (D := D) (ci := 9) (v := .ref (hRo 99)) (C := RX10) (T := TX10) (N := 14) hx hb hts iX10 hown hK hP 0 (rwl (rwl (rwl o_Mn))) rfl 2 (by decide) (htl _ (mB1 _ (List.mem_of_getElem? (i := 18) rfl))) (fun _ h9 => h9) rfl dX10_fewest_1 ?_
    obtain ⟨o1, go1, hf⟩ := bd_s hf
    refine ro_Vi (As := []) (rest := []) ⟨hx, hb, hml, hown, hts⟩ (c_X9_isTold l D K F hRo sRo o1 go1) (cwV 0 hts (gcV_X9_isTold (mB30 _ (List.mem_of_getElem? (i := 0) rfl))) rfl rfl rfl hdV_X9_isTold ⟨Nat.le_of_ble_eq_true rfl, Nat.le_of_ble_eq_true rfl⟩) hK hP hS (va_PL (cs := [wMn K hMn rMn0 (hRo 99) rMn3 rMn4 (hPl 99) rMn6 rMn7 rMn8 rMn9 rMn10 sMn, wPl K hPl gPl2 hPb sPl, wPb K hPb sPb, wRo K hRo sRo]) (cc := [wRo K hRo sRo]) hP (fl4 _ _ _ _) [3] rfl (fl1 _)) (va_recv hK hP (ci := 8) (q0 := (((1 + 5) + 10) + 0)) rfl (rwr (lnA (lnA ln_Mn ln_Pl) ln_Pb) o_Ro)) rfl hl.1 rfl (Nat.le_of_ble_eq_true rfl) dX10_fewest_4 ⟨Nat.zero_le _, Nat.zero_le _⟩ (fun H locs hP hS => ?_)
    refine lv_if_ne (tgt := 16) hx hb dX10_fewest_7 (by decide) (fun c2 => ?_) (fun c2 => ?_)
    · have hf := it_f hf c2
      refine lv_aload_n hx hb dX10_fewest_16 rfl (lv_at hl 0 rfl) ?_
      refine lv_aload_n hx hb dX10_fewest_17 rfl (lv_at hl 0 rfl) ?_
      refine va_get (D := D) (ci := 9) (v := .ref (hPl 99)) (C := RX10) (T := TX10) (N := 14) hx hb hts iX10 hown hK hP 0 (rwl (rwl (rwl o_Mn))) rfl 5 (by decide) (htl _ (mB2 _ (List.mem_of_getElem? (i := 3) rfl))) (fun _ h9 => h9) rfl dX10_fewest_18 ?_
      refine lv_aload_n hx hb dX10_fewest_21 rfl (lv_at hl 0 rfl) ?_
      refine va_get (D := D) (ci := 9) (v := .ref (hRo 99)) (C := RX10) (T := TX10) (N := 14) hx hb hts iX10 hown hK hP 0 (rwl (rwl (rwl o_Mn))) rfl 2 (by decide) (htl _ (mB1 _ (List.mem_of_getElem? (i := 18) rfl))) (fun _ h9 => h9) rfl dX10_fewest_22 ?_
      obtain ⟨o3, go3, hf⟩ := bd_s hf
      refine rk_Vi (wn := wMn K hMn rMn0 (hRo 99) rMn3 rMn4 (hPl 99) rMn6 rMn7 rMn8 rMn9 rMn10 sMn ++ wPl K hPl gPl2 hPb sPl ++ wPb K hPb o3.2 ++ wRo K hRo sRo) [wMn K hMn rMn0 (hRo 99) rMn3 rMn4 (hPl 99) rMn6 rMn7 rMn8 rMn9 rMn10 sMn, wPl K hPl gPl2 hPb sPl, wPb K hPb sPb, wRo K hRo sRo] [wPl K hPl gPl2 hPb sPl, wPb K hPb sPb, wRo K hRo sRo] [wPl K hPl gPl2 hPb sPl, wPb K hPb o3.2, wRo K hRo sRo] [wMn K hMn rMn0 (hRo 99) rMn3 rMn4 (hPl 99) rMn6 rMn7 rMn8 rMn9 rMn10 sMn, wPl K hPl gPl2 hPb sPl, wPb K hPb o3.2, wRo K hRo sRo] (As := [.ref (hRo 99)]) (rest := [.ref (hMn 99)]) ⟨hx, hb, hml, hown, hts⟩ (c_X6_fewestStops l D K F hPl gPl2 hPb hRo H.size sPl sPb sRo o3 go3) (cwV 1 hts (gcV_X6_fewestStops (mB34 _ (List.mem_of_getElem? (i := 20) rfl))) rfl rfl rfl hdV_X6_fewestStops ⟨Nat.le_of_ble_eq_true rfl, Nat.le_of_ble_eq_true rfl⟩) hK hP hD hS hA [1, 2, 3] (fl4 _ _ _ _) rfl (by decide) (fl3 _ _ _) (fl3 _ _ _) rfl rfl (fl4 _ _ _ _) (va_recv hK hP (ci := 5) (q0 := (1 + 0)) rfl (rwl (rwl (rwr ln_Mn o_Pl)))) rfl hl.1 rfl (Nat.le_of_ble_eq_true rfl) dX10_fewest_25 ⟨Nat.zero_le _, Nat.zero_le _⟩ (fun H locs hP hD hS => ?_)
      have hP : va_P D vwCl (wMn K hMn rMn0 (hRo 99) rMn3 rMn4 (hPl 99) rMn6 rMn7 rMn8 rMn9 rMn10 sMn ++ wPl K hPl gPl2 hPb sPl ++ wPb K hPb o3.2 ++ wRo K hRo sRo) H := hP
      have hD : va_D A (wMn K hMn rMn0 (hRo 99) rMn3 rMn4 (hPl 99) rMn6 rMn7 rMn8 rMn9 rMn10 sMn ++ wPl K hPl gPl2 hPb sPl ++ wPb K hPb o3.2 ++ wRo K hRo sRo) := hD
      obtain ⟨o4, go4, hf⟩ := bd_s hf
      refine rk_Vi (wn := wMn K hMn rMn0 (hRo 99) rMn3 rMn4 (hPl 99) rMn6 rMn7 rMn8 rMn9 rMn10 o4.2 ++ wPl K hPl gPl2 hPb sPl ++ wPb K hPb o3.2 ++ wRo K hRo sRo) [wMn K hMn rMn0 (hRo 99) rMn3 rMn4 (hPl 99) rMn6 rMn7 rMn8 rMn9 rMn10 sMn, wPl K hPl gPl2 hPb sPl, wPb K hPb o3.2, wRo K hRo sRo] [wMn K hMn rMn0 (hRo 99) rMn3 rMn4 (hPl 99) rMn6 rMn7 rMn8 rMn9 rMn10 sMn] [wMn K hMn rMn0 (hRo 99) rMn3 rMn4 (hPl 99) rMn6 rMn7 rMn8 rMn9 rMn10 o4.2] [wMn K hMn rMn0 (hRo 99) rMn3 rMn4 (hPl 99) rMn6 rMn7 rMn8 rMn9 rMn10 o4.2, wPl K hPl gPl2 hPb sPl, wPb K hPb o3.2, wRo K hRo sRo] (As := [.int o3.1]) (rest := []) ⟨hx, hb, hml, hown, hts⟩ (c_X10_accept l D K F hMn rMn0 (hRo 99) rMn3 rMn4 (hPl 99) rMn6 rMn7 rMn8 rMn9 rMn10 H.size sMn o3.1 o4 go4) (cwV 1 hts (gcV_X10_accept (mB17 _ (List.mem_of_getElem? (i := 14) rfl))) rfl rfl rfl hdV_X10_accept ⟨Nat.le_of_ble_eq_true rfl, Nat.le_of_ble_eq_true rfl⟩) hK hP hD hS hA [0] (fl4 _ _ _ _) rfl (by decide) (fl1 _) (fl1 _) rfl rfl (fl4 _ _ _ _) (va_recv hK hP (ci := 9) (q0 := 0) rfl (rwl (rwl (rwl o_Mn)))) rfl hl.1 rfl (Nat.le_of_ble_eq_true rfl) dX10_fewest_28 ⟨Nat.zero_le _, Nat.zero_le _⟩ (fun H locs hP hD hS => ?_)
      have hP : va_P D vwCl (wMn K hMn rMn0 (hRo 99) rMn3 rMn4 (hPl 99) rMn6 rMn7 rMn8 rMn9 rMn10 o4.2 ++ wPl K hPl gPl2 hPb sPl ++ wPb K hPb o3.2 ++ wRo K hRo sRo) H := hP
      have hD : va_D A (wMn K hMn rMn0 (hRo 99) rMn3 rMn4 (hPl 99) rMn6 rMn7 rMn8 rMn9 rMn10 o4.2 ++ wPl K hPl gPl2 hPb sPl ++ wPb K hPb o3.2 ++ wRo K hRo sRo) := hD
      have e9 := Option.some.inj hf
      rw [hQ]
      exact W.iret (v := o4.1) hx hb hr (fun t ht hW => ⟨⟨o4.1, (o4.2, o3.2), rfl, ⟨pr1 e9, pr2 e9⟩, ⟨by rw [ht]; exact hP, va_K.moved hW.alike hK, hD⟩⟩, hS.F ht⟩) hS.2.2 dX10_fewest_31
    · have hf := it_t hf c2
      refine lv_aload_n hx hb dX10_fewest_10 rfl (lv_at hl 0 rfl) ?_
      refine lv_iconst (v := (1 : Int32)) hx hb dX10_fewest_11 (by decide) ?_
      obtain ⟨o5, go5, hf⟩ := bd_s hf
      refine rk_Vi (wn := wMn K hMn rMn0 (hRo 99) rMn3 rMn4 (hPl 99) rMn6 rMn7 rMn8 rMn9 rMn10 o5.2 ++ wPl K hPl gPl2 hPb sPl ++ wPb K hPb sPb ++ wRo K hRo sRo) [wMn K hMn rMn0 (hRo 99) rMn3 rMn4 (hPl 99) rMn6 rMn7 rMn8 rMn9 rMn10 sMn, wPl K hPl gPl2 hPb sPl, wPb K hPb sPb, wRo K hRo sRo] [wMn K hMn rMn0 (hRo 99) rMn3 rMn4 (hPl 99) rMn6 rMn7 rMn8 rMn9 rMn10 sMn] [wMn K hMn rMn0 (hRo 99) rMn3 rMn4 (hPl 99) rMn6 rMn7 rMn8 rMn9 rMn10 o5.2] [wMn K hMn rMn0 (hRo 99) rMn3 rMn4 (hPl 99) rMn6 rMn7 rMn8 rMn9 rMn10 o5.2, wPl K hPl gPl2 hPb sPl, wPb K hPb sPb, wRo K hRo sRo] (As := [.int (1 : Int32)]) (rest := []) ⟨hx, hb, hml, hown, hts⟩ (c_X10_refuse l D K F hMn rMn0 (hRo 99) rMn3 rMn4 (hPl 99) rMn6 rMn7 rMn8 rMn9 rMn10 H.size sMn (1 : Int32) o5 go5) (cwV 1 hts (gcV_X10_refuse (mB7 _ (List.mem_of_getElem? (i := 18) rfl))) rfl rfl rfl hdV_X10_refuse ⟨Nat.le_of_ble_eq_true rfl, Nat.le_of_ble_eq_true rfl⟩) hK hP hD hS hA [0] (fl4 _ _ _ _) rfl (by decide) (fl1 _) (fl1 _) rfl rfl (fl4 _ _ _ _) (va_recv hK hP (ci := 9) (q0 := 0) rfl (rwl (rwl (rwl o_Mn)))) rfl hl.1 rfl (Nat.le_of_ble_eq_true rfl) dX10_fewest_12 ⟨Nat.zero_le _, Nat.zero_le _⟩ (fun H locs hP hD hS => ?_)
      have hP : va_P D vwCl (wMn K hMn rMn0 (hRo 99) rMn3 rMn4 (hPl 99) rMn6 rMn7 rMn8 rMn9 rMn10 o5.2 ++ wPl K hPl gPl2 hPb sPl ++ wPb K hPb sPb ++ wRo K hRo sRo) H := hP
      have hD : va_D A (wMn K hMn rMn0 (hRo 99) rMn3 rMn4 (hPl 99) rMn6 rMn7 rMn8 rMn9 rMn10 o5.2 ++ wPl K hPl gPl2 hPb sPl ++ wPb K hPb sPb ++ wRo K hRo sRo) := hD
      have e9 := Option.some.inj hf
      rw [hQ]
      exact W.iret (v := o5.1) hx hb hr (fun t ht hW => ⟨⟨o5.1, (o5.2, sPb), rfl, ⟨pr1 e9, pr2 e9⟩, ⟨by rw [ht]; exact hP, va_K.moved hW.alike hK, hD⟩⟩, hS.F ht⟩) hS.2.2 dX10_fewest_15
  rw [hHe] at hgo
  exact hgo

theorem gcV_X6_minutes {T0 : Cond} {own : String} {i : Nat} (h : Cond.methodLink own i yX6_minutes ∈ wsL_law) : GoodIn (T0 :: wsL_law) (wsV own i RX6 yX6_minutes wz_X6_minutes) := gV h (mB35 _ (List.mem_of_getElem? (i := 19) rfl)) (mB35 _ (List.mem_of_getElem? (i := 20) rfl)) (mB2 _ (List.mem_of_getElem? (i := 2) rfl)) (mB35 _ (List.mem_of_getElem? (i := 21) rfl))
theorem hdV_X6_minutes : yX6_minutes.cls = RX6 ∧ yX6_minutes.cls ≠ "java/lang/invoke/MethodHandle" ∧ yX6_minutes.cls ≠ "java/lang/invoke/VarHandle" ∧ (parseMethodDescriptor yX6_minutes.desc).map (fun d => d.parameters.length) = some 1 := by decide +kernel
def wz_X10_time : List Cond := .code yX10_time cX10_time 1 (some .int) :: wsL_law
abbrev r_X10_time : Room := { frames := 3, cells := 0, slots := 0, locals := 66 }
set_option maxHeartbeats 4000000 in
set_option maxRecDepth 100000 in
theorem c_X10_time (l : Launch) (D : va_G) (K : Nat → ClassId) (F : Nat) (hMn : Nat → Nat) (rMn0 : Nat) (rMn3 : Nat) (rMn4 : Nat) (rMn6 : Nat) (rMn7 : Nat) (rMn8 : Nat) (rMn9 : Nat) (rMn10 : Nat) (hPl : Nat → Nat) (gPl2 : Nat → Nat) (gPl3 : Nat → Nat) (hRo : Nat → Nat) (sz : Nat) (sMn : MS) (sPl : MS) (sRo : MS) (res : Int32 × MS) (hf : f_X10_time F sPl sRo sMn = some res) : Met l yX10_time wz_X10_time r_X10_time (va_Pc [.ref (hMn 99)] (PW D K (wMn K hMn rMn0 (hRo 99) rMn3 rMn4 (hPl 99) rMn6 rMn7 rMn8 rMn9 rMn10 sMn ++ wPl K hPl gPl2 gPl3 sPl ++ wRo K hRo sRo) sz)) (va_Qi (fun r u => r = res.1 ∧ u = res.2) (fun u t => BW D K (va_A (wMn K hMn rMn0 (hRo 99) rMn3 rMn4 (hPl 99) rMn6 rMn7 rMn8 rMn9 rMn10 sMn ++ wPl K hPl gPl2 gPl3 sPl ++ wRo K hRo sRo) sz) (wMn K hMn rMn0 (hRo 99) rMn3 rMn4 (hPl 99) rMn6 rMn7 rMn8 rMn9 rMn10 u ++ wPl K hPl gPl2 gPl3 sPl ++ wRo K hRo sRo) t) (va_A (wMn K hMn rMn0 (hRo 99) rMn3 rMn4 (hPl 99) rMn6 rMn7 rMn8 rMn9 rMn10 sMn ++ wPl K hPl gPl2 gPl3 sPl ++ wRo K hRo sRo) sz)) 0 0 (va_A (wMn K hMn rMn0 (hRo 99) rMn3 rMn4 (hPl 99) rMn6 rMn7 rMn8 rMn9 rMn10 sMn ++ wPl K hPl gPl2 gPl3 sPl ++ wRo K hRo sRo) sz) := by
  refine Met.ofW (cc := cX10_time) (maxL := 1) (ret := (some .int)) (by decide) rfl ?_
  intro p e s m args below meth c s₁ B hml hv
  obtain ⟨hargs, hsz, hP, hK, hD0⟩ := hv
  have hx := B.exec
  have hb := B.bytes
  have hr := B.returns
  have hts := atoms_spec (ws := wz_X10_time) B.pre
  have htl : ∀ w ∈ wsL_law, w.before args s = true := fun w h => hts w (List.mem_cons_of_mem _ h)
  have hown : s.vm.findClass RX10 = some m.cls := findClass_of_methodNamed B.named
  have hlocks := B.notSynchronized
  subst hsz
  have hD := hD0.self (sz := s.heap.size)
  generalize hAe : va_A (wMn K hMn rMn0 (hRo 99) rMn3 rMn4 (hPl 99) rMn6 rMn7 rMn8 rMn9 rMn10 sMn ++ wPl K hPl gPl2 gPl3 sPl ++ wRo K hRo sRo) s.heap.size = A at hD ⊢
  have hA : ∀ q : Nat, s.heap.size ≤ q → A q := fun q h => by rw [← hAe]; exact Or.inr h
  have hS : va_S A s.heap s.heap [] := va_S.rf
  have iX10 : ∀ w ∈ wsX100, w ∈ wz_X10_time := fun w h => List.mem_cons_of_mem _ (inlX10 w h)
  suffices hgo : ∀ Q : State → Prop, Q = MQ below (va_Qi (fun r u => r = res.1 ∧ u = res.2) (fun u t => BW D K A (wMn K hMn rMn0 (hRo 99) rMn3 rMn4 (hPl 99) rMn6 rMn7 rMn8 rMn9 rMn10 u ++ wPl K hPl gPl2 gPl3 sPl ++ wRo K hRo sRo) t) A) args s 0 0 A → W p l e (headSpec wz_X10_time r_X10_time).room s m args below meth c s.heap [] 0 0 Q (entryFrame m args 1) from hgo _ rfl
  intro Q hQ
  have hen : entryFrame m args 1 = entryFrame m (([.ref (hMn 99)] : List Value).toArray) 1 := by rw [hargs]
  have hl := lv_entry ([.ref (hMn 99)]) (n := 1) (Nat.le_of_ble_eq_true rfl)
  rw [hen, lg_entry_eq]
  generalize (lg_sl ([.ref (hMn 99)]) ++ List.replicate (1 - (lg_sl ([.ref (hMn 99)])).length) Slot.unset).toArray = ls at hl ⊢
  have hl : lv_has ls 1 [(0, .ref (hMn 99))] := hl
  unfold f_X10_time at hf
  obtain ⟨H, hHe⟩ : ∃ z, z = s.heap := ⟨_, rfl⟩
  obtain ⟨locs, hLe⟩ : ∃ z : List Loc, z = [] := ⟨_, rfl⟩
  rw [← hLe]
  have hS : va_S A s.heap H locs := by rw [hHe, hLe]; exact hS
  have hP : va_P D vwCl (wMn K hMn rMn0 (hRo 99) rMn3 rMn4 (hPl 99) rMn6 rMn7 rMn8 rMn9 rMn10 sMn ++ wPl K hPl gPl2 gPl3 sPl ++ wRo K hRo sRo) H := by rw [hHe]; exact hP
  have hgo : W p l e (headSpec wz_X10_time r_X10_time).room s m args below meth c H locs 0 0 Q (F0 m 0 ls []) := by
    refine lv_aload_n hx hb dX10_time_0 rfl (lv_at hl 0 rfl) ?_
    refine va_get (D := D) (ci := 9) (v := .ref (hRo 99)) (C := RX10) (T := TX10) (N := 14) hx hb hts iX10 hown hK hP 0 (rwl (rwl o_Mn)) rfl 2 (by decide) (htl _ (mB1 _ (List.mem_of_getElem? (i := 18) rfl))) (fun _ h9 => h9) rfl dX10_time_1 ?_
    obtain ⟨o1, go1, hf⟩ := bd_s hf
    refine ro_Vi (As := []) (rest := []) ⟨hx, hb, hml, hown, hts⟩ (c_X9_isTold l D K F hRo sRo o1 go1) (cwV 0 hts (gcV_X9_isTold (mB30 _ (List.mem_of_getElem? (i := 0) rfl))) rfl rfl rfl hdV_X9_isTold ⟨Nat.le_of_ble_eq_true rfl, Nat.le_of_ble_eq_true rfl⟩) hK hP hS (va_PL (cs := [wMn K hMn rMn0 (hRo 99) rMn3 rMn4 (hPl 99) rMn6 rMn7 rMn8 rMn9 rMn10 sMn, wPl K hPl gPl2 gPl3 sPl, wRo K hRo sRo]) (cc := [wRo K hRo sRo]) hP (fl3 _ _ _) [2] rfl (fl1 _)) (va_recv hK hP (ci := 8) (q0 := ((1 + 5) + 0)) rfl (rwr (lnA ln_Mn ln_Pl) o_Ro)) rfl hl.1 rfl (Nat.le_of_ble_eq_true rfl) dX10_time_4 ⟨Nat.zero_le _, Nat.zero_le _⟩ (fun H locs hP hS => ?_)
    refine lv_if_ne (tgt := 16) hx hb dX10_time_7 (by decide) (fun c2 => ?_) (fun c2 => ?_)
    · have hf := it_f hf c2
      refine lv_aload_n hx hb dX10_time_16 rfl (lv_at hl 0 rfl) ?_
      refine va_get (D := D) (ci := 9) (v := .ref (hPl 99)) (C := RX10) (T := TX10) (N := 14) hx hb hts iX10 hown hK hP 0 (rwl (rwl o_Mn)) rfl 5 (by decide) (htl _ (mB2 _ (List.mem_of_getElem? (i := 3) rfl))) (fun _ h9 => h9) rfl dX10_time_17 ?_
      refine lv_aload_n hx hb dX10_time_20 rfl (lv_at hl 0 rfl) ?_
      refine va_get (D := D) (ci := 9) (v := .ref (hRo 99)) (C := RX10) (T := TX10) (N := 14) hx hb hts iX10 hown hK hP 0 (rwl (rwl o_Mn)) rfl 2 (by decide) (htl _ (mB1 _ (List.mem_of_getElem? (i := 18) rfl))) (fun _ h9 => h9) rfl dX10_time_21 ?_
      obtain ⟨o3, go3, hf⟩ := bd_s hf
      refine ro_Vi (As := [.ref (hRo 99)]) (rest := []) ⟨hx, hb, hml, hown, hts⟩ (c_X6_failsAt l D K F hPl gPl2 gPl3 hRo sPl sRo o3 go3) (cwV 1 hts (gcV_X6_failsAt (mB30 _ (List.mem_of_getElem? (i := 1) rfl))) rfl rfl rfl hdV_X6_failsAt ⟨Nat.le_of_ble_eq_true rfl, Nat.le_of_ble_eq_true rfl⟩) hK hP hS (va_PL (cs := [wMn K hMn rMn0 (hRo 99) rMn3 rMn4 (hPl 99) rMn6 rMn7 rMn8 rMn9 rMn10 sMn, wPl K hPl gPl2 gPl3 sPl, wRo K hRo sRo]) (cc := [wPl K hPl gPl2 gPl3 sPl, wRo K hRo sRo]) hP (fl3 _ _ _) [1, 2] rfl (fl2 _ _)) (va_recv hK hP (ci := 5) (q0 := (1 + 0)) rfl (rwl (rwr ln_Mn o_Pl))) rfl hl.1 rfl (Nat.le_of_ble_eq_true rfl) dX10_time_24 ⟨Nat.zero_le _, Nat.zero_le _⟩ (fun H locs hP hS => ?_)
      refine lv_bipush (v := (-2 : Int32)) hx hb dX10_time_27 (by decide) ?_
      refine lv_icmp_eq (tgt := 38) hx hb dX10_time_29 (by decide) (fun c4 => ?_) (fun c4 => ?_)
      · have hf := it_t hf c4
        refine lv_aload_n hx hb dX10_time_38 rfl (lv_at hl 0 rfl) ?_
        refine lv_aload_n hx hb dX10_time_39 rfl (lv_at hl 0 rfl) ?_
        refine va_get (D := D) (ci := 9) (v := .ref (hPl 99)) (C := RX10) (T := TX10) (N := 14) hx hb hts iX10 hown hK hP 0 (rwl (rwl o_Mn)) rfl 5 (by decide) (htl _ (mB2 _ (List.mem_of_getElem? (i := 3) rfl))) (fun _ h9 => h9) rfl dX10_time_40 ?_
        refine lv_aload_n hx hb dX10_time_43 rfl (lv_at hl 0 rfl) ?_
        refine va_get (D := D) (ci := 9) (v := .ref (hRo 99)) (C := RX10) (T := TX10) (N := 14) hx hb hts iX10 hown hK hP 0 (rwl (rwl o_Mn)) rfl 2 (by decide) (htl _ (mB1 _ (List.mem_of_getElem? (i := 18) rfl))) (fun _ h9 => h9) rfl dX10_time_44 ?_
        obtain ⟨o5, go5, hf⟩ := bd_s hf
        refine ro_Vi (As := [.ref (hRo 99)]) (rest := [.ref (hMn 99)]) ⟨hx, hb, hml, hown, hts⟩ (c_X6_minutes l D K F hPl gPl2 gPl3 hRo sPl sRo o5 go5) (cwV 1 hts (gcV_X6_minutes (mB35 _ (List.mem_of_getElem? (i := 18) rfl))) rfl rfl rfl hdV_X6_minutes ⟨Nat.le_of_ble_eq_true rfl, Nat.le_of_ble_eq_true rfl⟩) hK hP hS (va_PL (cs := [wMn K hMn rMn0 (hRo 99) rMn3 rMn4 (hPl 99) rMn6 rMn7 rMn8 rMn9 rMn10 sMn, wPl K hPl gPl2 gPl3 sPl, wRo K hRo sRo]) (cc := [wPl K hPl gPl2 gPl3 sPl, wRo K hRo sRo]) hP (fl3 _ _ _) [1, 2] rfl (fl2 _ _)) (va_recv hK hP (ci := 5) (q0 := (1 + 0)) rfl (rwl (rwr ln_Mn o_Pl))) rfl hl.1 rfl (Nat.le_of_ble_eq_true rfl) dX10_time_47 ⟨Nat.zero_le _, Nat.zero_le _⟩ (fun H locs hP hS => ?_)
        obtain ⟨o6, go6, hf⟩ := bd_s hf
        refine rk_Vi (wn := wMn K hMn rMn0 (hRo 99) rMn3 rMn4 (hPl 99) rMn6 rMn7 rMn8 rMn9 rMn10 o6.2 ++ wPl K hPl gPl2 gPl3 sPl ++ wRo K hRo sRo) [wMn K hMn rMn0 (hRo 99) rMn3 rMn4 (hPl 99) rMn6 rMn7 rMn8 rMn9 rMn10 sMn, wPl K hPl gPl2 gPl3 sPl, wRo K hRo sRo] [wMn K hMn rMn0 (hRo 99) rMn3 rMn4 (hPl 99) rMn6 rMn7 rMn8 rMn9 rMn10 sMn] [wMn K hMn rMn0 (hRo 99) rMn3 rMn4 (hPl 99) rMn6 rMn7 rMn8 rMn9 rMn10 o6.2] [wMn K hMn rMn0 (hRo 99) rMn3 rMn4 (hPl 99) rMn6 rMn7 rMn8 rMn9 rMn10 o6.2, wPl K hPl gPl2 gPl3 sPl, wRo K hRo sRo] (As := [.int o5]) (rest := []) ⟨hx, hb, hml, hown, hts⟩ (c_X10_accept l D K F hMn rMn0 (hRo 99) rMn3 rMn4 (hPl 99) rMn6 rMn7 rMn8 rMn9 rMn10 H.size sMn o5 o6 go6) (cwV 1 hts (gcV_X10_accept (mB17 _ (List.mem_of_getElem? (i := 14) rfl))) rfl rfl rfl hdV_X10_accept ⟨Nat.le_of_ble_eq_true rfl, Nat.le_of_ble_eq_true rfl⟩) hK hP hD hS hA [0] (fl3 _ _ _) rfl (by decide) (fl1 _) (fl1 _) rfl rfl (fl3 _ _ _) (va_recv hK hP (ci := 9) (q0 := 0) rfl (rwl (rwl o_Mn))) rfl hl.1 rfl (Nat.le_of_ble_eq_true rfl) dX10_time_50 ⟨Nat.zero_le _, Nat.zero_le _⟩ (fun H locs hP hD hS => ?_)
        have hP : va_P D vwCl (wMn K hMn rMn0 (hRo 99) rMn3 rMn4 (hPl 99) rMn6 rMn7 rMn8 rMn9 rMn10 o6.2 ++ wPl K hPl gPl2 gPl3 sPl ++ wRo K hRo sRo) H := hP
        have hD : va_D A (wMn K hMn rMn0 (hRo 99) rMn3 rMn4 (hPl 99) rMn6 rMn7 rMn8 rMn9 rMn10 o6.2 ++ wPl K hPl gPl2 gPl3 sPl ++ wRo K hRo sRo) := hD
        have e9 := Option.some.inj hf
        rw [hQ]
        exact W.iret (v := o6.1) hx hb hr (fun t ht hW => ⟨⟨o6.1, o6.2, rfl, ⟨pr1 e9, pr2 e9⟩, ⟨by rw [ht]; exact hP, va_K.moved hW.alike hK, hD⟩⟩, hS.F ht⟩) hS.2.2 dX10_time_53
      · have hf := it_f hf c4
        refine lv_aload_n hx hb dX10_time_32 rfl (lv_at hl 0 rfl) ?_
        refine lv_iconst (v := (5 : Int32)) hx hb dX10_time_33 (by decide) ?_
        obtain ⟨o7, go7, hf⟩ := bd_s hf
        refine rk_Vi (wn := wMn K hMn rMn0 (hRo 99) rMn3 rMn4 (hPl 99) rMn6 rMn7 rMn8 rMn9 rMn10 o7.2 ++ wPl K hPl gPl2 gPl3 sPl ++ wRo K hRo sRo) [wMn K hMn rMn0 (hRo 99) rMn3 rMn4 (hPl 99) rMn6 rMn7 rMn8 rMn9 rMn10 sMn, wPl K hPl gPl2 gPl3 sPl, wRo K hRo sRo] [wMn K hMn rMn0 (hRo 99) rMn3 rMn4 (hPl 99) rMn6 rMn7 rMn8 rMn9 rMn10 sMn] [wMn K hMn rMn0 (hRo 99) rMn3 rMn4 (hPl 99) rMn6 rMn7 rMn8 rMn9 rMn10 o7.2] [wMn K hMn rMn0 (hRo 99) rMn3 rMn4 (hPl 99) rMn6 rMn7 rMn8 rMn9 rMn10 o7.2, wPl K hPl gPl2 gPl3 sPl, wRo K hRo sRo] (As := [.int (5 : Int32)]) (rest := []) ⟨hx, hb, hml, hown, hts⟩ (c_X10_refuse l D K F hMn rMn0 (hRo 99) rMn3 rMn4 (hPl 99) rMn6 rMn7 rMn8 rMn9 rMn10 H.size sMn (5 : Int32) o7 go7) (cwV 1 hts (gcV_X10_refuse (mB7 _ (List.mem_of_getElem? (i := 18) rfl))) rfl rfl rfl hdV_X10_refuse ⟨Nat.le_of_ble_eq_true rfl, Nat.le_of_ble_eq_true rfl⟩) hK hP hD hS hA [0] (fl3 _ _ _) rfl (by decide) (fl1 _) (fl1 _) rfl rfl (fl3 _ _ _) (va_recv hK hP (ci := 9) (q0 := 0) rfl (rwl (rwl o_Mn))) rfl hl.1 rfl (Nat.le_of_ble_eq_true rfl) dX10_time_34 ⟨Nat.zero_le _, Nat.zero_le _⟩ (fun H locs hP hD hS => ?_)
        have hP : va_P D vwCl (wMn K hMn rMn0 (hRo 99) rMn3 rMn4 (hPl 99) rMn6 rMn7 rMn8 rMn9 rMn10 o7.2 ++ wPl K hPl gPl2 gPl3 sPl ++ wRo K hRo sRo) H := hP
        have hD : va_D A (wMn K hMn rMn0 (hRo 99) rMn3 rMn4 (hPl 99) rMn6 rMn7 rMn8 rMn9 rMn10 o7.2 ++ wPl K hPl gPl2 gPl3 sPl ++ wRo K hRo sRo) := hD
        have e9 := Option.some.inj hf
        rw [hQ]
        exact W.iret (v := o7.1) hx hb hr (fun t ht hW => ⟨⟨o7.1, o7.2, rfl, ⟨pr1 e9, pr2 e9⟩, ⟨by rw [ht]; exact hP, va_K.moved hW.alike hK, hD⟩⟩, hS.F ht⟩) hS.2.2 dX10_time_37
    · have hf := it_t hf c2
      refine lv_aload_n hx hb dX10_time_10 rfl (lv_at hl 0 rfl) ?_
      refine lv_iconst (v := (1 : Int32)) hx hb dX10_time_11 (by decide) ?_
      obtain ⟨o8, go8, hf⟩ := bd_s hf
      refine rk_Vi (wn := wMn K hMn rMn0 (hRo 99) rMn3 rMn4 (hPl 99) rMn6 rMn7 rMn8 rMn9 rMn10 o8.2 ++ wPl K hPl gPl2 gPl3 sPl ++ wRo K hRo sRo) [wMn K hMn rMn0 (hRo 99) rMn3 rMn4 (hPl 99) rMn6 rMn7 rMn8 rMn9 rMn10 sMn, wPl K hPl gPl2 gPl3 sPl, wRo K hRo sRo] [wMn K hMn rMn0 (hRo 99) rMn3 rMn4 (hPl 99) rMn6 rMn7 rMn8 rMn9 rMn10 sMn] [wMn K hMn rMn0 (hRo 99) rMn3 rMn4 (hPl 99) rMn6 rMn7 rMn8 rMn9 rMn10 o8.2] [wMn K hMn rMn0 (hRo 99) rMn3 rMn4 (hPl 99) rMn6 rMn7 rMn8 rMn9 rMn10 o8.2, wPl K hPl gPl2 gPl3 sPl, wRo K hRo sRo] (As := [.int (1 : Int32)]) (rest := []) ⟨hx, hb, hml, hown, hts⟩ (c_X10_refuse l D K F hMn rMn0 (hRo 99) rMn3 rMn4 (hPl 99) rMn6 rMn7 rMn8 rMn9 rMn10 H.size sMn (1 : Int32) o8 go8) (cwV 1 hts (gcV_X10_refuse (mB7 _ (List.mem_of_getElem? (i := 18) rfl))) rfl rfl rfl hdV_X10_refuse ⟨Nat.le_of_ble_eq_true rfl, Nat.le_of_ble_eq_true rfl⟩) hK hP hD hS hA [0] (fl3 _ _ _) rfl (by decide) (fl1 _) (fl1 _) rfl rfl (fl3 _ _ _) (va_recv hK hP (ci := 9) (q0 := 0) rfl (rwl (rwl o_Mn))) rfl hl.1 rfl (Nat.le_of_ble_eq_true rfl) dX10_time_12 ⟨Nat.zero_le _, Nat.zero_le _⟩ (fun H locs hP hD hS => ?_)
      have hP : va_P D vwCl (wMn K hMn rMn0 (hRo 99) rMn3 rMn4 (hPl 99) rMn6 rMn7 rMn8 rMn9 rMn10 o8.2 ++ wPl K hPl gPl2 gPl3 sPl ++ wRo K hRo sRo) H := hP
      have hD : va_D A (wMn K hMn rMn0 (hRo 99) rMn3 rMn4 (hPl 99) rMn6 rMn7 rMn8 rMn9 rMn10 o8.2 ++ wPl K hPl gPl2 gPl3 sPl ++ wRo K hRo sRo) := hD
      have e9 := Option.some.inj hf
      rw [hQ]
      exact W.iret (v := o8.1) hx hb hr (fun t ht hW => ⟨⟨o8.1, o8.2, rfl, ⟨pr1 e9, pr2 e9⟩, ⟨by rw [ht]; exact hP, va_K.moved hW.alike hK, hD⟩⟩, hS.F ht⟩) hS.2.2 dX10_time_15
  rw [hHe] at hgo
  exact hgo

def wz_X10_without : List Cond := .code yX10_without cX10_without 2 (some .int) :: wsL_law
abbrev r_X10_without : Room := { frames := 4, cells := 0, slots := 0, locals := 101 }
set_option maxHeartbeats 4000000 in
set_option maxRecDepth 100000 in
theorem c_X10_without (l : Launch) (D : va_G) (K : Nat → ClassId) (F : Nat) (hMn : Nat → Nat) (rMn0 : Nat) (rMn3 : Nat) (rMn4 : Nat) (rMn6 : Nat) (rMn7 : Nat) (rMn8 : Nat) (rMn9 : Nat) (rMn10 : Nat) (hPl : Nat → Nat) (gPl3 : Nat → Nat) (hPc : Nat → Nat) (hRo : Nat → Nat) (sz : Nat) (sMn : MS) (sPl : MS) (sPc : MS) (sRo : MS) (p1 : Int32) (res : Int32 × MS × MS × MS) (hf : f_X10_without F sRo p1 sMn sPl sPc = some res) : Met l yX10_without wz_X10_without r_X10_without (va_Pc [.ref (hMn 99), .int p1] (PW D K (wMn K hMn rMn0 (hRo 99) rMn3 rMn4 (hPl 99) rMn6 rMn7 rMn8 rMn9 rMn10 sMn ++ wPl K hPl hPc gPl3 sPl ++ wPc K hPc sPc ++ wRo K hRo sRo) sz)) (va_Qi (fun r u => r = res.1 ∧ u = res.2) (fun u t => BW D K (va_A (wMn K hMn rMn0 (hRo 99) rMn3 rMn4 (hPl 99) rMn6 rMn7 rMn8 rMn9 rMn10 sMn ++ wPl K hPl hPc gPl3 sPl ++ wPc K hPc sPc ++ wRo K hRo sRo) sz) (wMn K hMn rMn0 (hRo 99) rMn3 rMn4 (hPl 99) rMn6 rMn7 rMn8 rMn9 rMn10 u.1 ++ wPl K hPl hPc gPl3 u.2.1 ++ wPc K hPc u.2.2 ++ wRo K hRo sRo) t) (va_A (wMn K hMn rMn0 (hRo 99) rMn3 rMn4 (hPl 99) rMn6 rMn7 rMn8 rMn9 rMn10 sMn ++ wPl K hPl hPc gPl3 sPl ++ wPc K hPc sPc ++ wRo K hRo sRo) sz)) 0 0 (va_A (wMn K hMn rMn0 (hRo 99) rMn3 rMn4 (hPl 99) rMn6 rMn7 rMn8 rMn9 rMn10 sMn ++ wPl K hPl hPc gPl3 sPl ++ wPc K hPc sPc ++ wRo K hRo sRo) sz) := by
  refine Met.ofW (cc := cX10_without) (maxL := 2) (ret := (some .int)) (by decide) rfl ?_
  intro p e s m args below meth c s₁ B hml hv
  obtain ⟨hargs, hsz, hP, hK, hD0⟩ := hv
  have hx := B.exec
  have hb := B.bytes
  have hr := B.returns
  have hts := atoms_spec (ws := wz_X10_without) B.pre
  have htl : ∀ w ∈ wsL_law, w.before args s = true := fun w h => hts w (List.mem_cons_of_mem _ h)
  have hown : s.vm.findClass RX10 = some m.cls := findClass_of_methodNamed B.named
  have hlocks := B.notSynchronized
  subst hsz
  have hD := hD0.self (sz := s.heap.size)
  generalize hAe : va_A (wMn K hMn rMn0 (hRo 99) rMn3 rMn4 (hPl 99) rMn6 rMn7 rMn8 rMn9 rMn10 sMn ++ wPl K hPl hPc gPl3 sPl ++ wPc K hPc sPc ++ wRo K hRo sRo) s.heap.size = A at hD ⊢
  have hA : ∀ q : Nat, s.heap.size ≤ q → A q := fun q h => by rw [← hAe]; exact Or.inr h
  have hS : va_S A s.heap s.heap [] := va_S.rf
  have iX10 : ∀ w ∈ wsX100, w ∈ wz_X10_without := fun w h => List.mem_cons_of_mem _ (inlX10 w h)
  suffices hgo : ∀ Q : State → Prop, Q = MQ below (va_Qi (fun r u => r = res.1 ∧ u = res.2) (fun u t => BW D K A (wMn K hMn rMn0 (hRo 99) rMn3 rMn4 (hPl 99) rMn6 rMn7 rMn8 rMn9 rMn10 u.1 ++ wPl K hPl hPc gPl3 u.2.1 ++ wPc K hPc u.2.2 ++ wRo K hRo sRo) t) A) args s 0 0 A → W p l e (headSpec wz_X10_without r_X10_without).room s m args below meth c s.heap [] 0 0 Q (entryFrame m args 2) from hgo _ rfl
  intro Q hQ
  have hen : entryFrame m args 2 = entryFrame m (([.ref (hMn 99), .int p1] : List Value).toArray) 2 := by rw [hargs]
  have hl := lv_entry ([.ref (hMn 99), .int p1]) (n := 2) (Nat.le_of_ble_eq_true rfl)
  rw [hen, lg_entry_eq]
  generalize (lg_sl ([.ref (hMn 99), .int p1]) ++ List.replicate (2 - (lg_sl ([.ref (hMn 99), .int p1])).length) Slot.unset).toArray = ls at hl ⊢
  have hl : lv_has ls 2 [(0, .ref (hMn 99)), (1, .int p1)] := hl
  unfold f_X10_without at hf
  obtain ⟨H, hHe⟩ : ∃ z, z = s.heap := ⟨_, rfl⟩
  obtain ⟨locs, hLe⟩ : ∃ z : List Loc, z = [] := ⟨_, rfl⟩
  rw [← hLe]
  have hS : va_S A s.heap H locs := by rw [hHe, hLe]; exact hS
  have hP : va_P D vwCl (wMn K hMn rMn0 (hRo 99) rMn3 rMn4 (hPl 99) rMn6 rMn7 rMn8 rMn9 rMn10 sMn ++ wPl K hPl hPc gPl3 sPl ++ wPc K hPc sPc ++ wRo K hRo sRo) H := by rw [hHe]; exact hP
  have hgo : W p l e (headSpec wz_X10_without r_X10_without).room s m args below meth c H locs 0 0 Q (F0 m 0 ls []) := by
    refine lv_aload_n hx hb dX10_without_0 rfl (lv_at hl 0 rfl) ?_
    refine va_get (D := D) (ci := 9) (v := .ref (hRo 99)) (C := RX10) (T := TX10) (N := 14) hx hb hts iX10 hown hK hP 0 (rwl (rwl (rwl o_Mn))) rfl 2 (by decide) (htl _ (mB1 _ (List.mem_of_getElem? (i := 18) rfl))) (fun _ h9 => h9) rfl dX10_without_1 ?_
    refine lv_iload_n hx hb dX10_without_4 rfl (lv_at hl 1 rfl) ?_
    obtain ⟨o1, go1, hf⟩ := bd_s hf
    refine ro_Vi (As := [.int p1]) (rest := []) ⟨hx, hb, hml, hown, hts⟩ (c_X9_isLeft l D K F hRo sRo p1 o1 go1) (cwV 1 hts (gcV_X9_isLeft (mB28 _ (List.mem_of_getElem? (i := 20) rfl))) rfl rfl rfl hdV_X9_isLeft ⟨Nat.le_of_ble_eq_true rfl, Nat.le_of_ble_eq_true rfl⟩) hK hP hS (va_PL (cs := [wMn K hMn rMn0 (hRo 99) rMn3 rMn4 (hPl 99) rMn6 rMn7 rMn8 rMn9 rMn10 sMn, wPl K hPl hPc gPl3 sPl, wPc K hPc sPc, wRo K hRo sRo]) (cc := [wRo K hRo sRo]) hP (fl4 _ _ _ _) [3] rfl (fl1 _)) (va_recv hK hP (ci := 8) (q0 := (((1 + 5) + 9) + 0)) rfl (rwr (lnA (lnA ln_Mn ln_Pl) ln_Pc) o_Ro)) rfl hl.1 rfl (Nat.le_of_ble_eq_true rfl) dX10_without_5 ⟨Nat.zero_le _, Nat.zero_le _⟩ (fun H locs hP hS => ?_)
    refine lv_if_ne (tgt := 17) hx hb dX10_without_8 (by decide) (fun c2 => ?_) (fun c2 => ?_)
    · have hf := it_f hf c2
      refine lv_aload_n hx hb dX10_without_17 rfl (lv_at hl 0 rfl) ?_
      refine va_get (D := D) (ci := 9) (v := .ref (hRo 99)) (C := RX10) (T := TX10) (N := 14) hx hb hts iX10 hown hK hP 0 (rwl (rwl (rwl o_Mn))) rfl 2 (by decide) (htl _ (mB1 _ (List.mem_of_getElem? (i := 18) rfl))) (fun _ h9 => h9) rfl dX10_without_18 ?_
      refine lv_iload_n hx hb dX10_without_21 rfl (lv_at hl 1 rfl) ?_
      obtain ⟨o3, go3, hf⟩ := bd_s hf
      refine ro_Vi (As := [.int p1]) (rest := []) ⟨hx, hb, hml, hown, hts⟩ (c_X9_hasPumpAt l D K F hRo sRo p1 o3 go3) (cwV 1 hts (gcV_X9_hasPumpAt (mB36 _ (List.mem_of_getElem? (i := 12) rfl))) rfl rfl rfl hdV_X9_hasPumpAt ⟨Nat.le_of_ble_eq_true rfl, Nat.le_of_ble_eq_true rfl⟩) hK hP hS (va_PL (cs := [wMn K hMn rMn0 (hRo 99) rMn3 rMn4 (hPl 99) rMn6 rMn7 rMn8 rMn9 rMn10 sMn, wPl K hPl hPc gPl3 sPl, wPc K hPc sPc, wRo K hRo sRo]) (cc := [wRo K hRo sRo]) hP (fl4 _ _ _ _) [3] rfl (fl1 _)) (va_recv hK hP (ci := 8) (q0 := (((1 + 5) + 9) + 0)) rfl (rwr (lnA (lnA ln_Mn ln_Pl) ln_Pc) o_Ro)) rfl hl.1 rfl (Nat.le_of_ble_eq_true rfl) dX10_without_22 ⟨Nat.zero_le _, Nat.zero_le _⟩ (fun H locs hP hS => ?_)
      refine lv_if_ne (tgt := 35) hx hb dX10_without_25 (by decide) (fun c4 => ?_) (fun c4 => ?_)
      · have hf := it_f hf c4
        refine lv_aload_n hx hb dX10_without_35 rfl (lv_at hl 0 rfl) ?_
        refine lv_aload_n hx hb dX10_without_36 rfl (lv_at hl 0 rfl) ?_
        refine va_get (D := D) (ci := 9) (v := .ref (hPl 99)) (C := RX10) (T := TX10) (N := 14) hx hb hts iX10 hown hK hP 0 (rwl (rwl (rwl o_Mn))) rfl 5 (by decide) (htl _ (mB2 _ (List.mem_of_getElem? (i := 3) rfl))) (fun _ h9 => h9) rfl dX10_without_37 ?_
        refine lv_aload_n hx hb dX10_without_40 rfl (lv_at hl 0 rfl) ?_
        refine va_get (D := D) (ci := 9) (v := .ref (hRo 99)) (C := RX10) (T := TX10) (N := 14) hx hb hts iX10 hown hK hP 0 (rwl (rwl (rwl o_Mn))) rfl 2 (by decide) (htl _ (mB1 _ (List.mem_of_getElem? (i := 18) rfl))) (fun _ h9 => h9) rfl dX10_without_41 ?_
        refine lv_iload_n hx hb dX10_without_44 rfl (lv_at hl 1 rfl) ?_
        obtain ⟨o5, go5, hf⟩ := bd_s hf
        refine rk_Vi (wn := wMn K hMn rMn0 (hRo 99) rMn3 rMn4 (hPl 99) rMn6 rMn7 rMn8 rMn9 rMn10 sMn ++ wPl K hPl hPc gPl3 o5.2.1 ++ wPc K hPc o5.2.2 ++ wRo K hRo sRo) [wMn K hMn rMn0 (hRo 99) rMn3 rMn4 (hPl 99) rMn6 rMn7 rMn8 rMn9 rMn10 sMn, wPl K hPl hPc gPl3 sPl, wPc K hPc sPc, wRo K hRo sRo] [wPl K hPl hPc gPl3 sPl, wPc K hPc sPc, wRo K hRo sRo] [wPl K hPl hPc gPl3 o5.2.1, wPc K hPc o5.2.2, wRo K hRo sRo] [wMn K hMn rMn0 (hRo 99) rMn3 rMn4 (hPl 99) rMn6 rMn7 rMn8 rMn9 rMn10 sMn, wPl K hPl hPc gPl3 o5.2.1, wPc K hPc o5.2.2, wRo K hRo sRo] (As := [.ref (hRo 99), .int p1]) (rest := [.ref (hMn 99)]) ⟨hx, hb, hml, hown, hts⟩ (c_X6_leastCost l D K F hPl gPl3 hPc hRo H.size sPl sPc sRo p1 o5 go5) (cwV 2 hts (gcV_X6_leastCost (mB32 _ (List.mem_of_getElem? (i := 1) rfl))) rfl rfl rfl hdV_X6_leastCost ⟨Nat.le_of_ble_eq_true rfl, Nat.le_of_ble_eq_true rfl⟩) hK hP hD hS hA [1, 2, 3] (fl4 _ _ _ _) rfl (by decide) (fl3 _ _ _) (fl3 _ _ _) rfl rfl (fl4 _ _ _ _) (va_recv hK hP (ci := 5) (q0 := (1 + 0)) rfl (rwl (rwl (rwr ln_Mn o_Pl)))) rfl hl.1 rfl (Nat.le_of_ble_eq_true rfl) dX10_without_45 ⟨Nat.zero_le _, Nat.zero_le _⟩ (fun H locs hP hD hS => ?_)
        have hP : va_P D vwCl (wMn K hMn rMn0 (hRo 99) rMn3 rMn4 (hPl 99) rMn6 rMn7 rMn8 rMn9 rMn10 sMn ++ wPl K hPl hPc gPl3 o5.2.1 ++ wPc K hPc o5.2.2 ++ wRo K hRo sRo) H := hP
        have hD : va_D A (wMn K hMn rMn0 (hRo 99) rMn3 rMn4 (hPl 99) rMn6 rMn7 rMn8 rMn9 rMn10 sMn ++ wPl K hPl hPc gPl3 o5.2.1 ++ wPc K hPc o5.2.2 ++ wRo K hRo sRo) := hD
        obtain ⟨o6, go6, hf⟩ := bd_s hf
        refine rk_Vi (wn := wMn K hMn rMn0 (hRo 99) rMn3 rMn4 (hPl 99) rMn6 rMn7 rMn8 rMn9 rMn10 o6.2 ++ wPl K hPl hPc gPl3 o5.2.1 ++ wPc K hPc o5.2.2 ++ wRo K hRo sRo) [wMn K hMn rMn0 (hRo 99) rMn3 rMn4 (hPl 99) rMn6 rMn7 rMn8 rMn9 rMn10 sMn, wPl K hPl hPc gPl3 o5.2.1, wPc K hPc o5.2.2, wRo K hRo sRo] [wMn K hMn rMn0 (hRo 99) rMn3 rMn4 (hPl 99) rMn6 rMn7 rMn8 rMn9 rMn10 sMn] [wMn K hMn rMn0 (hRo 99) rMn3 rMn4 (hPl 99) rMn6 rMn7 rMn8 rMn9 rMn10 o6.2] [wMn K hMn rMn0 (hRo 99) rMn3 rMn4 (hPl 99) rMn6 rMn7 rMn8 rMn9 rMn10 o6.2, wPl K hPl hPc gPl3 o5.2.1, wPc K hPc o5.2.2, wRo K hRo sRo] (As := [.int o5.1]) (rest := []) ⟨hx, hb, hml, hown, hts⟩ (c_X10_accept l D K F hMn rMn0 (hRo 99) rMn3 rMn4 (hPl 99) rMn6 rMn7 rMn8 rMn9 rMn10 H.size sMn o5.1 o6 go6) (cwV 1 hts (gcV_X10_accept (mB17 _ (List.mem_of_getElem? (i := 14) rfl))) rfl rfl rfl hdV_X10_accept ⟨Nat.le_of_ble_eq_true rfl, Nat.le_of_ble_eq_true rfl⟩) hK hP hD hS hA [0] (fl4 _ _ _ _) rfl (by decide) (fl1 _) (fl1 _) rfl rfl (fl4 _ _ _ _) (va_recv hK hP (ci := 9) (q0 := 0) rfl (rwl (rwl (rwl o_Mn)))) rfl hl.1 rfl (Nat.le_of_ble_eq_true rfl) dX10_without_48 ⟨Nat.zero_le _, Nat.zero_le _⟩ (fun H locs hP hD hS => ?_)
        have hP : va_P D vwCl (wMn K hMn rMn0 (hRo 99) rMn3 rMn4 (hPl 99) rMn6 rMn7 rMn8 rMn9 rMn10 o6.2 ++ wPl K hPl hPc gPl3 o5.2.1 ++ wPc K hPc o5.2.2 ++ wRo K hRo sRo) H := hP
        have hD : va_D A (wMn K hMn rMn0 (hRo 99) rMn3 rMn4 (hPl 99) rMn6 rMn7 rMn8 rMn9 rMn10 o6.2 ++ wPl K hPl hPc gPl3 o5.2.1 ++ wPc K hPc o5.2.2 ++ wRo K hRo sRo) := hD
        have e9 := Option.some.inj hf
        rw [hQ]
        exact W.iret (v := o6.1) hx hb hr (fun t ht hW => ⟨⟨o6.1, (o6.2, o5.2.1, o5.2.2), rfl, ⟨pr1 e9, pr2 e9⟩, ⟨by rw [ht]; exact hP, va_K.moved hW.alike hK, hD⟩⟩, hS.F ht⟩) hS.2.2 dX10_without_51
      · have hf := it_t hf c4
        refine lv_aload_n hx hb dX10_without_28 rfl (lv_at hl 0 rfl) ?_
        refine lv_bipush (v := (6 : Int32)) hx hb dX10_without_29 (by decide) ?_
        obtain ⟨o7, go7, hf⟩ := bd_s hf
        refine rk_Vi (wn := wMn K hMn rMn0 (hRo 99) rMn3 rMn4 (hPl 99) rMn6 rMn7 rMn8 rMn9 rMn10 o7.2 ++ wPl K hPl hPc gPl3 sPl ++ wPc K hPc sPc ++ wRo K hRo sRo) [wMn K hMn rMn0 (hRo 99) rMn3 rMn4 (hPl 99) rMn6 rMn7 rMn8 rMn9 rMn10 sMn, wPl K hPl hPc gPl3 sPl, wPc K hPc sPc, wRo K hRo sRo] [wMn K hMn rMn0 (hRo 99) rMn3 rMn4 (hPl 99) rMn6 rMn7 rMn8 rMn9 rMn10 sMn] [wMn K hMn rMn0 (hRo 99) rMn3 rMn4 (hPl 99) rMn6 rMn7 rMn8 rMn9 rMn10 o7.2] [wMn K hMn rMn0 (hRo 99) rMn3 rMn4 (hPl 99) rMn6 rMn7 rMn8 rMn9 rMn10 o7.2, wPl K hPl hPc gPl3 sPl, wPc K hPc sPc, wRo K hRo sRo] (As := [.int (6 : Int32)]) (rest := []) ⟨hx, hb, hml, hown, hts⟩ (c_X10_refuse l D K F hMn rMn0 (hRo 99) rMn3 rMn4 (hPl 99) rMn6 rMn7 rMn8 rMn9 rMn10 H.size sMn (6 : Int32) o7 go7) (cwV 1 hts (gcV_X10_refuse (mB7 _ (List.mem_of_getElem? (i := 18) rfl))) rfl rfl rfl hdV_X10_refuse ⟨Nat.le_of_ble_eq_true rfl, Nat.le_of_ble_eq_true rfl⟩) hK hP hD hS hA [0] (fl4 _ _ _ _) rfl (by decide) (fl1 _) (fl1 _) rfl rfl (fl4 _ _ _ _) (va_recv hK hP (ci := 9) (q0 := 0) rfl (rwl (rwl (rwl o_Mn)))) rfl hl.1 rfl (Nat.le_of_ble_eq_true rfl) dX10_without_31 ⟨Nat.zero_le _, Nat.zero_le _⟩ (fun H locs hP hD hS => ?_)
        have hP : va_P D vwCl (wMn K hMn rMn0 (hRo 99) rMn3 rMn4 (hPl 99) rMn6 rMn7 rMn8 rMn9 rMn10 o7.2 ++ wPl K hPl hPc gPl3 sPl ++ wPc K hPc sPc ++ wRo K hRo sRo) H := hP
        have hD : va_D A (wMn K hMn rMn0 (hRo 99) rMn3 rMn4 (hPl 99) rMn6 rMn7 rMn8 rMn9 rMn10 o7.2 ++ wPl K hPl hPc gPl3 sPl ++ wPc K hPc sPc ++ wRo K hRo sRo) := hD
        have e9 := Option.some.inj hf
        rw [hQ]
        exact W.iret (v := o7.1) hx hb hr (fun t ht hW => ⟨⟨o7.1, (o7.2, sPl, sPc), rfl, ⟨pr1 e9, pr2 e9⟩, ⟨by rw [ht]; exact hP, va_K.moved hW.alike hK, hD⟩⟩, hS.F ht⟩) hS.2.2 dX10_without_34
    · have hf := it_t hf c2
      refine lv_aload_n hx hb dX10_without_11 rfl (lv_at hl 0 rfl) ?_
      refine lv_iconst (v := (1 : Int32)) hx hb dX10_without_12 (by decide) ?_
      obtain ⟨o8, go8, hf⟩ := bd_s hf
      refine rk_Vi (wn := wMn K hMn rMn0 (hRo 99) rMn3 rMn4 (hPl 99) rMn6 rMn7 rMn8 rMn9 rMn10 o8.2 ++ wPl K hPl hPc gPl3 sPl ++ wPc K hPc sPc ++ wRo K hRo sRo) [wMn K hMn rMn0 (hRo 99) rMn3 rMn4 (hPl 99) rMn6 rMn7 rMn8 rMn9 rMn10 sMn, wPl K hPl hPc gPl3 sPl, wPc K hPc sPc, wRo K hRo sRo] [wMn K hMn rMn0 (hRo 99) rMn3 rMn4 (hPl 99) rMn6 rMn7 rMn8 rMn9 rMn10 sMn] [wMn K hMn rMn0 (hRo 99) rMn3 rMn4 (hPl 99) rMn6 rMn7 rMn8 rMn9 rMn10 o8.2] [wMn K hMn rMn0 (hRo 99) rMn3 rMn4 (hPl 99) rMn6 rMn7 rMn8 rMn9 rMn10 o8.2, wPl K hPl hPc gPl3 sPl, wPc K hPc sPc, wRo K hRo sRo] (As := [.int (1 : Int32)]) (rest := []) ⟨hx, hb, hml, hown, hts⟩ (c_X10_refuse l D K F hMn rMn0 (hRo 99) rMn3 rMn4 (hPl 99) rMn6 rMn7 rMn8 rMn9 rMn10 H.size sMn (1 : Int32) o8 go8) (cwV 1 hts (gcV_X10_refuse (mB7 _ (List.mem_of_getElem? (i := 18) rfl))) rfl rfl rfl hdV_X10_refuse ⟨Nat.le_of_ble_eq_true rfl, Nat.le_of_ble_eq_true rfl⟩) hK hP hD hS hA [0] (fl4 _ _ _ _) rfl (by decide) (fl1 _) (fl1 _) rfl rfl (fl4 _ _ _ _) (va_recv hK hP (ci := 9) (q0 := 0) rfl (rwl (rwl (rwl o_Mn)))) rfl hl.1 rfl (Nat.le_of_ble_eq_true rfl) dX10_without_13 ⟨Nat.zero_le _, Nat.zero_le _⟩ (fun H locs hP hD hS => ?_)
      have hP : va_P D vwCl (wMn K hMn rMn0 (hRo 99) rMn3 rMn4 (hPl 99) rMn6 rMn7 rMn8 rMn9 rMn10 o8.2 ++ wPl K hPl hPc gPl3 sPl ++ wPc K hPc sPc ++ wRo K hRo sRo) H := hP
      have hD : va_D A (wMn K hMn rMn0 (hRo 99) rMn3 rMn4 (hPl 99) rMn6 rMn7 rMn8 rMn9 rMn10 o8.2 ++ wPl K hPl hPc gPl3 sPl ++ wPc K hPc sPc ++ wRo K hRo sRo) := hD
      have e9 := Option.some.inj hf
      rw [hQ]
      exact W.iret (v := o8.1) hx hb hr (fun t ht hW => ⟨⟨o8.1, (o8.2, sPl, sPc), rfl, ⟨pr1 e9, pr2 e9⟩, ⟨by rw [ht]; exact hP, va_K.moved hW.alike hK, hD⟩⟩, hS.F ht⟩) hS.2.2 dX10_without_16
  rw [hHe] at hgo
  exact hgo

theorem gcV_X6_worstGap {T0 : Cond} {own : String} {i : Nat} (h : Cond.methodLink own i yX6_worstGap ∈ wsL_law) : GoodIn (T0 :: wsL_law) (wsV own i RX6 yX6_worstGap wz_X6_worstGap) := gV h (mB36 _ (List.mem_of_getElem? (i := 22) rfl)) (mB36 _ (List.mem_of_getElem? (i := 23) rfl)) (mB2 _ (List.mem_of_getElem? (i := 2) rfl)) (mB37 _ (List.mem_of_getElem? (i := 0) rfl))
theorem hdV_X6_worstGap : yX6_worstGap.cls = RX6 ∧ yX6_worstGap.cls ≠ "java/lang/invoke/MethodHandle" ∧ yX6_worstGap.cls ≠ "java/lang/invoke/VarHandle" ∧ (parseMethodDescriptor yX6_worstGap.desc).map (fun d => d.parameters.length) = some 1 := by decide +kernel
def wz_X10_gap : List Cond := .code yX10_gap cX10_gap 2 (some .int) :: wsL_law
abbrev r_X10_gap : Room := { frames := 5, cells := 0, slots := 0, locals := 126 }
set_option maxHeartbeats 4000000 in
set_option maxRecDepth 100000 in
theorem c_X10_gap (l : Launch) (D : va_G) (K : Nat → ClassId) (F : Nat) (hMn : Nat → Nat) (rMn0 : Nat) (rMn3 : Nat) (rMn4 : Nat) (rMn6 : Nat) (rMn7 : Nat) (rMn8 : Nat) (rMn9 : Nat) (rMn10 : Nat) (hPl : Nat → Nat) (gPl3 : Nat → Nat) (hPc : Nat → Nat) (hRo : Nat → Nat) (sz : Nat) (sMn : MS) (sPl : MS) (sPc : MS) (sRo : MS) (res : Int32 × MS × MS × MS) (hf : f_X10_gap F sRo sMn sPl sPc = some res) : Met l yX10_gap wz_X10_gap r_X10_gap (va_Pc [.ref (hMn 99)] (PW D K (wMn K hMn rMn0 (hRo 99) rMn3 rMn4 (hPl 99) rMn6 rMn7 rMn8 rMn9 rMn10 sMn ++ wPl K hPl hPc gPl3 sPl ++ wPc K hPc sPc ++ wRo K hRo sRo) sz)) (va_Qi (fun r u => r = res.1 ∧ u = res.2) (fun u t => BW D K (va_A (wMn K hMn rMn0 (hRo 99) rMn3 rMn4 (hPl 99) rMn6 rMn7 rMn8 rMn9 rMn10 sMn ++ wPl K hPl hPc gPl3 sPl ++ wPc K hPc sPc ++ wRo K hRo sRo) sz) (wMn K hMn rMn0 (hRo 99) rMn3 rMn4 (hPl 99) rMn6 rMn7 rMn8 rMn9 rMn10 u.1 ++ wPl K hPl hPc gPl3 u.2.1 ++ wPc K hPc u.2.2 ++ wRo K hRo sRo) t) (va_A (wMn K hMn rMn0 (hRo 99) rMn3 rMn4 (hPl 99) rMn6 rMn7 rMn8 rMn9 rMn10 sMn ++ wPl K hPl hPc gPl3 sPl ++ wPc K hPc sPc ++ wRo K hRo sRo) sz)) 0 0 (va_A (wMn K hMn rMn0 (hRo 99) rMn3 rMn4 (hPl 99) rMn6 rMn7 rMn8 rMn9 rMn10 sMn ++ wPl K hPl hPc gPl3 sPl ++ wPc K hPc sPc ++ wRo K hRo sRo) sz) := by
  refine Met.ofW (cc := cX10_gap) (maxL := 2) (ret := (some .int)) (by decide) rfl ?_
  intro p e s m args below meth c s₁ B hml hv
  obtain ⟨hargs, hsz, hP, hK, hD0⟩ := hv
  have hx := B.exec
  have hb := B.bytes
  have hr := B.returns
  have hts := atoms_spec (ws := wz_X10_gap) B.pre
  have htl : ∀ w ∈ wsL_law, w.before args s = true := fun w h => hts w (List.mem_cons_of_mem _ h)
  have hown : s.vm.findClass RX10 = some m.cls := findClass_of_methodNamed B.named
  have hlocks := B.notSynchronized
  subst hsz
  have hD := hD0.self (sz := s.heap.size)
  generalize hAe : va_A (wMn K hMn rMn0 (hRo 99) rMn3 rMn4 (hPl 99) rMn6 rMn7 rMn8 rMn9 rMn10 sMn ++ wPl K hPl hPc gPl3 sPl ++ wPc K hPc sPc ++ wRo K hRo sRo) s.heap.size = A at hD ⊢
  have hA : ∀ q : Nat, s.heap.size ≤ q → A q := fun q h => by rw [← hAe]; exact Or.inr h
  have hS : va_S A s.heap s.heap [] := va_S.rf
  have iX10 : ∀ w ∈ wsX100, w ∈ wz_X10_gap := fun w h => List.mem_cons_of_mem _ (inlX10 w h)
  suffices hgo : ∀ Q : State → Prop, Q = MQ below (va_Qi (fun r u => r = res.1 ∧ u = res.2) (fun u t => BW D K A (wMn K hMn rMn0 (hRo 99) rMn3 rMn4 (hPl 99) rMn6 rMn7 rMn8 rMn9 rMn10 u.1 ++ wPl K hPl hPc gPl3 u.2.1 ++ wPc K hPc u.2.2 ++ wRo K hRo sRo) t) A) args s 0 0 A → W p l e (headSpec wz_X10_gap r_X10_gap).room s m args below meth c s.heap [] 0 0 Q (entryFrame m args 2) from hgo _ rfl
  intro Q hQ
  have hen : entryFrame m args 2 = entryFrame m (([.ref (hMn 99)] : List Value).toArray) 2 := by rw [hargs]
  have hl := lv_entry ([.ref (hMn 99)]) (n := 2) (Nat.le_of_ble_eq_true rfl)
  rw [hen, lg_entry_eq]
  generalize (lg_sl ([.ref (hMn 99)]) ++ List.replicate (2 - (lg_sl ([.ref (hMn 99)])).length) Slot.unset).toArray = ls at hl ⊢
  have hl : lv_has ls 2 [(0, .ref (hMn 99))] := hl
  unfold f_X10_gap at hf
  obtain ⟨H, hHe⟩ : ∃ z, z = s.heap := ⟨_, rfl⟩
  obtain ⟨locs, hLe⟩ : ∃ z : List Loc, z = [] := ⟨_, rfl⟩
  rw [← hLe]
  have hS : va_S A s.heap H locs := by rw [hHe, hLe]; exact hS
  have hP : va_P D vwCl (wMn K hMn rMn0 (hRo 99) rMn3 rMn4 (hPl 99) rMn6 rMn7 rMn8 rMn9 rMn10 sMn ++ wPl K hPl hPc gPl3 sPl ++ wPc K hPc sPc ++ wRo K hRo sRo) H := by rw [hHe]; exact hP
  have hgo : W p l e (headSpec wz_X10_gap r_X10_gap).room s m args below meth c H locs 0 0 Q (F0 m 0 ls []) := by
    refine lv_aload_n hx hb dX10_gap_0 rfl (lv_at hl 0 rfl) ?_
    refine va_get (D := D) (ci := 9) (v := .ref (hRo 99)) (C := RX10) (T := TX10) (N := 14) hx hb hts iX10 hown hK hP 0 (rwl (rwl (rwl o_Mn))) rfl 2 (by decide) (htl _ (mB1 _ (List.mem_of_getElem? (i := 18) rfl))) (fun _ h9 => h9) rfl dX10_gap_1 ?_
    obtain ⟨o1, go1, hf⟩ := bd_s hf
    refine ro_Vi (As := []) (rest := []) ⟨hx, hb, hml, hown, hts⟩ (c_X9_isTold l D K F hRo sRo o1 go1) (cwV 0 hts (gcV_X9_isTold (mB30 _ (List.mem_of_getElem? (i := 0) rfl))) rfl rfl rfl hdV_X9_isTold ⟨Nat.le_of_ble_eq_true rfl, Nat.le_of_ble_eq_true rfl⟩) hK hP hS (va_PL (cs := [wMn K hMn rMn0 (hRo 99) rMn3 rMn4 (hPl 99) rMn6 rMn7 rMn8 rMn9 rMn10 sMn, wPl K hPl hPc gPl3 sPl, wPc K hPc sPc, wRo K hRo sRo]) (cc := [wRo K hRo sRo]) hP (fl4 _ _ _ _) [3] rfl (fl1 _)) (va_recv hK hP (ci := 8) (q0 := (((1 + 5) + 9) + 0)) rfl (rwr (lnA (lnA ln_Mn ln_Pl) ln_Pc) o_Ro)) rfl hl.1 rfl (Nat.le_of_ble_eq_true rfl) dX10_gap_4 ⟨Nat.zero_le _, Nat.zero_le _⟩ (fun H locs hP hS => ?_)
    refine lv_if_ne (tgt := 16) hx hb dX10_gap_7 (by decide) (fun c2 => ?_) (fun c2 => ?_)
    · have hf := it_f hf c2
      refine lv_aload_n hx hb dX10_gap_16 rfl (lv_at hl 0 rfl) ?_
      refine va_get (D := D) (ci := 9) (v := .ref (hPl 99)) (C := RX10) (T := TX10) (N := 14) hx hb hts iX10 hown hK hP 0 (rwl (rwl (rwl o_Mn))) rfl 5 (by decide) (htl _ (mB2 _ (List.mem_of_getElem? (i := 3) rfl))) (fun _ h9 => h9) rfl dX10_gap_17 ?_
      refine lv_aload_n hx hb dX10_gap_20 rfl (lv_at hl 0 rfl) ?_
      refine va_get (D := D) (ci := 9) (v := .ref (hRo 99)) (C := RX10) (T := TX10) (N := 14) hx hb hts iX10 hown hK hP 0 (rwl (rwl (rwl o_Mn))) rfl 2 (by decide) (htl _ (mB1 _ (List.mem_of_getElem? (i := 18) rfl))) (fun _ h9 => h9) rfl dX10_gap_21 ?_
      obtain ⟨o3, go3, hf⟩ := bd_s hf
      refine rk_Vi (wn := wMn K hMn rMn0 (hRo 99) rMn3 rMn4 (hPl 99) rMn6 rMn7 rMn8 rMn9 rMn10 sMn ++ wPl K hPl hPc gPl3 o3.2.1 ++ wPc K hPc o3.2.2 ++ wRo K hRo sRo) [wMn K hMn rMn0 (hRo 99) rMn3 rMn4 (hPl 99) rMn6 rMn7 rMn8 rMn9 rMn10 sMn, wPl K hPl hPc gPl3 sPl, wPc K hPc sPc, wRo K hRo sRo] [wPl K hPl hPc gPl3 sPl, wPc K hPc sPc, wRo K hRo sRo] [wPl K hPl hPc gPl3 o3.2.1, wPc K hPc o3.2.2, wRo K hRo sRo] [wMn K hMn rMn0 (hRo 99) rMn3 rMn4 (hPl 99) rMn6 rMn7 rMn8 rMn9 rMn10 sMn, wPl K hPl hPc gPl3 o3.2.1, wPc K hPc o3.2.2, wRo K hRo sRo] (As := [.ref (hRo 99)]) (rest := []) ⟨hx, hb, hml, hown, hts⟩ (c_X6_worstGap l D K F hPl gPl3 hPc hRo H.size sPl sPc sRo o3 go3) (cwV 1 hts (gcV_X6_worstGap (mB36 _ (List.mem_of_getElem? (i := 21) rfl))) rfl rfl rfl hdV_X6_worstGap ⟨Nat.le_of_ble_eq_true rfl, Nat.le_of_ble_eq_true rfl⟩) hK hP hD hS hA [1, 2, 3] (fl4 _ _ _ _) rfl (by decide) (fl3 _ _ _) (fl3 _ _ _) rfl rfl (fl4 _ _ _ _) (va_recv hK hP (ci := 5) (q0 := (1 + 0)) rfl (rwl (rwl (rwr ln_Mn o_Pl)))) rfl hl.1 rfl (Nat.le_of_ble_eq_true rfl) dX10_gap_24 ⟨Nat.zero_le _, Nat.zero_le _⟩ (fun H locs hP hD hS => ?_)
      have hP : va_P D vwCl (wMn K hMn rMn0 (hRo 99) rMn3 rMn4 (hPl 99) rMn6 rMn7 rMn8 rMn9 rMn10 sMn ++ wPl K hPl hPc gPl3 o3.2.1 ++ wPc K hPc o3.2.2 ++ wRo K hRo sRo) H := hP
      have hD : va_D A (wMn K hMn rMn0 (hRo 99) rMn3 rMn4 (hPl 99) rMn6 rMn7 rMn8 rMn9 rMn10 sMn ++ wPl K hPl hPc gPl3 o3.2.1 ++ wPc K hPc o3.2.2 ++ wRo K hRo sRo) := hD
      refine lv_istore_n (lv' := [(1, .int o3.1), (0, .ref (hMn 99))]) hx hb dX10_gap_27 rfl hl (by decide) rfl (fun ls hl => ?_)
      refine lv_iload_n hx hb dX10_gap_28 rfl (lv_at hl 0 rfl) ?_
      refine lv_iconst (v := (-1 : Int32)) hx hb dX10_gap_29 (by decide) ?_
      refine lv_icmp_ne (tgt := 42) hx hb dX10_gap_30 (by decide) (fun c4 => ?_) (fun c4 => ?_)
      · have hf := it_f hf c4
        refine lv_aload_n hx hb dX10_gap_42 rfl (lv_at hl 1 rfl) ?_
        refine lv_iload_n hx hb dX10_gap_43 rfl (lv_at hl 0 rfl) ?_
        obtain ⟨o5, go5, hf⟩ := bd_s hf
        refine rk_Vi (wn := wMn K hMn rMn0 (hRo 99) rMn3 rMn4 (hPl 99) rMn6 rMn7 rMn8 rMn9 rMn10 o5.2 ++ wPl K hPl hPc gPl3 o3.2.1 ++ wPc K hPc o3.2.2 ++ wRo K hRo sRo) [wMn K hMn rMn0 (hRo 99) rMn3 rMn4 (hPl 99) rMn6 rMn7 rMn8 rMn9 rMn10 sMn, wPl K hPl hPc gPl3 o3.2.1, wPc K hPc o3.2.2, wRo K hRo sRo] [wMn K hMn rMn0 (hRo 99) rMn3 rMn4 (hPl 99) rMn6 rMn7 rMn8 rMn9 rMn10 sMn] [wMn K hMn rMn0 (hRo 99) rMn3 rMn4 (hPl 99) rMn6 rMn7 rMn8 rMn9 rMn10 o5.2] [wMn K hMn rMn0 (hRo 99) rMn3 rMn4 (hPl 99) rMn6 rMn7 rMn8 rMn9 rMn10 o5.2, wPl K hPl hPc gPl3 o3.2.1, wPc K hPc o3.2.2, wRo K hRo sRo] (As := [.int o3.1]) (rest := []) ⟨hx, hb, hml, hown, hts⟩ (c_X10_accept l D K F hMn rMn0 (hRo 99) rMn3 rMn4 (hPl 99) rMn6 rMn7 rMn8 rMn9 rMn10 H.size sMn o3.1 o5 go5) (cwV 1 hts (gcV_X10_accept (mB17 _ (List.mem_of_getElem? (i := 14) rfl))) rfl rfl rfl hdV_X10_accept ⟨Nat.le_of_ble_eq_true rfl, Nat.le_of_ble_eq_true rfl⟩) hK hP hD hS hA [0] (fl4 _ _ _ _) rfl (by decide) (fl1 _) (fl1 _) rfl rfl (fl4 _ _ _ _) (va_recv hK hP (ci := 9) (q0 := 0) rfl (rwl (rwl (rwl o_Mn)))) rfl hl.1 rfl (Nat.le_of_ble_eq_true rfl) dX10_gap_44 ⟨Nat.zero_le _, Nat.zero_le _⟩ (fun H locs hP hD hS => ?_)
        have hP : va_P D vwCl (wMn K hMn rMn0 (hRo 99) rMn3 rMn4 (hPl 99) rMn6 rMn7 rMn8 rMn9 rMn10 o5.2 ++ wPl K hPl hPc gPl3 o3.2.1 ++ wPc K hPc o3.2.2 ++ wRo K hRo sRo) H := hP
        have hD : va_D A (wMn K hMn rMn0 (hRo 99) rMn3 rMn4 (hPl 99) rMn6 rMn7 rMn8 rMn9 rMn10 o5.2 ++ wPl K hPl hPc gPl3 o3.2.1 ++ wPc K hPc o3.2.2 ++ wRo K hRo sRo) := hD
        have e9 := Option.some.inj hf
        rw [hQ]
        exact W.iret (v := o5.1) hx hb hr (fun t ht hW => ⟨⟨o5.1, (o5.2, o3.2.1, o3.2.2), rfl, ⟨pr1 e9, pr2 e9⟩, ⟨by rw [ht]; exact hP, va_K.moved hW.alike hK, hD⟩⟩, hS.F ht⟩) hS.2.2 dX10_gap_47
      · have hf := it_t hf c4
        refine lv_aload_n hx hb dX10_gap_33 rfl (lv_at hl 1 rfl) ?_
        refine lv_bipush (v := (6 : Int32)) hx hb dX10_gap_34 (by decide) ?_
        obtain ⟨o6, go6, hf⟩ := bd_s hf
        refine rk_Vi (wn := wMn K hMn rMn0 (hRo 99) rMn3 rMn4 (hPl 99) rMn6 rMn7 rMn8 rMn9 rMn10 o6.2 ++ wPl K hPl hPc gPl3 o3.2.1 ++ wPc K hPc o3.2.2 ++ wRo K hRo sRo) [wMn K hMn rMn0 (hRo 99) rMn3 rMn4 (hPl 99) rMn6 rMn7 rMn8 rMn9 rMn10 sMn, wPl K hPl hPc gPl3 o3.2.1, wPc K hPc o3.2.2, wRo K hRo sRo] [wMn K hMn rMn0 (hRo 99) rMn3 rMn4 (hPl 99) rMn6 rMn7 rMn8 rMn9 rMn10 sMn] [wMn K hMn rMn0 (hRo 99) rMn3 rMn4 (hPl 99) rMn6 rMn7 rMn8 rMn9 rMn10 o6.2] [wMn K hMn rMn0 (hRo 99) rMn3 rMn4 (hPl 99) rMn6 rMn7 rMn8 rMn9 rMn10 o6.2, wPl K hPl hPc gPl3 o3.2.1, wPc K hPc o3.2.2, wRo K hRo sRo] (As := [.int (6 : Int32)]) (rest := []) ⟨hx, hb, hml, hown, hts⟩ (c_X10_refuse l D K F hMn rMn0 (hRo 99) rMn3 rMn4 (hPl 99) rMn6 rMn7 rMn8 rMn9 rMn10 H.size sMn (6 : Int32) o6 go6) (cwV 1 hts (gcV_X10_refuse (mB7 _ (List.mem_of_getElem? (i := 18) rfl))) rfl rfl rfl hdV_X10_refuse ⟨Nat.le_of_ble_eq_true rfl, Nat.le_of_ble_eq_true rfl⟩) hK hP hD hS hA [0] (fl4 _ _ _ _) rfl (by decide) (fl1 _) (fl1 _) rfl rfl (fl4 _ _ _ _) (va_recv hK hP (ci := 9) (q0 := 0) rfl (rwl (rwl (rwl o_Mn)))) rfl hl.1 rfl (Nat.le_of_ble_eq_true rfl) dX10_gap_36 ⟨Nat.zero_le _, Nat.zero_le _⟩ (fun H locs hP hD hS => ?_)
        have hP : va_P D vwCl (wMn K hMn rMn0 (hRo 99) rMn3 rMn4 (hPl 99) rMn6 rMn7 rMn8 rMn9 rMn10 o6.2 ++ wPl K hPl hPc gPl3 o3.2.1 ++ wPc K hPc o3.2.2 ++ wRo K hRo sRo) H := hP
        have hD : va_D A (wMn K hMn rMn0 (hRo 99) rMn3 rMn4 (hPl 99) rMn6 rMn7 rMn8 rMn9 rMn10 o6.2 ++ wPl K hPl hPc gPl3 o3.2.1 ++ wPc K hPc o3.2.2 ++ wRo K hRo sRo) := hD
        refine lv_goto (tgt := 47) hx hb dX10_gap_39 (by decide) ?_
        have e9 := Option.some.inj hf
        rw [hQ]
        exact W.iret (v := o6.1) hx hb hr (fun t ht hW => ⟨⟨o6.1, (o6.2, o3.2.1, o3.2.2), rfl, ⟨pr1 e9, pr2 e9⟩, ⟨by rw [ht]; exact hP, va_K.moved hW.alike hK, hD⟩⟩, hS.F ht⟩) hS.2.2 dX10_gap_47
    · have hf := it_t hf c2
      refine lv_aload_n hx hb dX10_gap_10 rfl (lv_at hl 0 rfl) ?_
      refine lv_iconst (v := (1 : Int32)) hx hb dX10_gap_11 (by decide) ?_
      obtain ⟨o7, go7, hf⟩ := bd_s hf
      refine rk_Vi (wn := wMn K hMn rMn0 (hRo 99) rMn3 rMn4 (hPl 99) rMn6 rMn7 rMn8 rMn9 rMn10 o7.2 ++ wPl K hPl hPc gPl3 sPl ++ wPc K hPc sPc ++ wRo K hRo sRo) [wMn K hMn rMn0 (hRo 99) rMn3 rMn4 (hPl 99) rMn6 rMn7 rMn8 rMn9 rMn10 sMn, wPl K hPl hPc gPl3 sPl, wPc K hPc sPc, wRo K hRo sRo] [wMn K hMn rMn0 (hRo 99) rMn3 rMn4 (hPl 99) rMn6 rMn7 rMn8 rMn9 rMn10 sMn] [wMn K hMn rMn0 (hRo 99) rMn3 rMn4 (hPl 99) rMn6 rMn7 rMn8 rMn9 rMn10 o7.2] [wMn K hMn rMn0 (hRo 99) rMn3 rMn4 (hPl 99) rMn6 rMn7 rMn8 rMn9 rMn10 o7.2, wPl K hPl hPc gPl3 sPl, wPc K hPc sPc, wRo K hRo sRo] (As := [.int (1 : Int32)]) (rest := []) ⟨hx, hb, hml, hown, hts⟩ (c_X10_refuse l D K F hMn rMn0 (hRo 99) rMn3 rMn4 (hPl 99) rMn6 rMn7 rMn8 rMn9 rMn10 H.size sMn (1 : Int32) o7 go7) (cwV 1 hts (gcV_X10_refuse (mB7 _ (List.mem_of_getElem? (i := 18) rfl))) rfl rfl rfl hdV_X10_refuse ⟨Nat.le_of_ble_eq_true rfl, Nat.le_of_ble_eq_true rfl⟩) hK hP hD hS hA [0] (fl4 _ _ _ _) rfl (by decide) (fl1 _) (fl1 _) rfl rfl (fl4 _ _ _ _) (va_recv hK hP (ci := 9) (q0 := 0) rfl (rwl (rwl (rwl o_Mn)))) rfl hl.1 rfl (Nat.le_of_ble_eq_true rfl) dX10_gap_12 ⟨Nat.zero_le _, Nat.zero_le _⟩ (fun H locs hP hD hS => ?_)
      have hP : va_P D vwCl (wMn K hMn rMn0 (hRo 99) rMn3 rMn4 (hPl 99) rMn6 rMn7 rMn8 rMn9 rMn10 o7.2 ++ wPl K hPl hPc gPl3 sPl ++ wPc K hPc sPc ++ wRo K hRo sRo) H := hP
      have hD : va_D A (wMn K hMn rMn0 (hRo 99) rMn3 rMn4 (hPl 99) rMn6 rMn7 rMn8 rMn9 rMn10 o7.2 ++ wPl K hPl hPc gPl3 sPl ++ wPc K hPc sPc ++ wRo K hRo sRo) := hD
      have e9 := Option.some.inj hf
      rw [hQ]
      exact W.iret (v := o7.1) hx hb hr (fun t ht hW => ⟨⟨o7.1, (o7.2, sPl, sPc), rfl, ⟨pr1 e9, pr2 e9⟩, ⟨by rw [ht]; exact hP, va_K.moved hW.alike hK, hD⟩⟩, hS.F ht⟩) hS.2.2 dX10_gap_15
  rw [hHe] at hgo
  exact hgo

theorem gcV_X6_leastWithin {T0 : Cond} {own : String} {i : Nat} (h : Cond.methodLink own i yX6_leastWithin ∈ wsL_law) : GoodIn (T0 :: wsL_law) (wsV own i RX6 yX6_leastWithin wz_X6_leastWithin) := gV h (mB37 _ (List.mem_of_getElem? (i := 10) rfl)) (mB37 _ (List.mem_of_getElem? (i := 11) rfl)) (mB2 _ (List.mem_of_getElem? (i := 2) rfl)) (mB37 _ (List.mem_of_getElem? (i := 12) rfl))
theorem hdV_X6_leastWithin : yX6_leastWithin.cls = RX6 ∧ yX6_leastWithin.cls ≠ "java/lang/invoke/MethodHandle" ∧ yX6_leastWithin.cls ≠ "java/lang/invoke/VarHandle" ∧ (parseMethodDescriptor yX6_leastWithin.desc).map (fun d => d.parameters.length) = some 2 := by decide +kernel
def wz_X10_within : List Cond := .code yX10_within cX10_within 2 (some .int) :: wsL_law
abbrev r_X10_within : Room := { frames := 4, cells := 0, slots := 0, locals := 95 }
set_option maxHeartbeats 4000000 in
set_option maxRecDepth 100000 in
theorem c_X10_within (l : Launch) (D : va_G) (K : Nat → ClassId) (F : Nat) (hMn : Nat → Nat) (rMn0 : Nat) (rMn3 : Nat) (rMn4 : Nat) (rMn6 : Nat) (rMn7 : Nat) (rMn8 : Nat) (rMn9 : Nat) (rMn10 : Nat) (hPl : Nat → Nat) (gPl2 : Nat → Nat) (hPb : Nat → Nat) (hRo : Nat → Nat) (sz : Nat) (sMn : MS) (sPl : MS) (sPb : MS) (sRo : MS) (p1 : Int32) (res : Int32 × MS × MS) (hf : f_X10_within F sPl sRo p1 sMn sPb = some res) : Met l yX10_within wz_X10_within r_X10_within (va_Pc [.ref (hMn 99), .int p1] (PW D K (wMn K hMn rMn0 (hRo 99) rMn3 rMn4 (hPl 99) rMn6 rMn7 rMn8 rMn9 rMn10 sMn ++ wPl K hPl gPl2 hPb sPl ++ wPb K hPb sPb ++ wRo K hRo sRo) sz)) (va_Qi (fun r u => r = res.1 ∧ u = res.2) (fun u t => BW D K (va_A (wMn K hMn rMn0 (hRo 99) rMn3 rMn4 (hPl 99) rMn6 rMn7 rMn8 rMn9 rMn10 sMn ++ wPl K hPl gPl2 hPb sPl ++ wPb K hPb sPb ++ wRo K hRo sRo) sz) (wMn K hMn rMn0 (hRo 99) rMn3 rMn4 (hPl 99) rMn6 rMn7 rMn8 rMn9 rMn10 u.1 ++ wPl K hPl gPl2 hPb sPl ++ wPb K hPb u.2 ++ wRo K hRo sRo) t) (va_A (wMn K hMn rMn0 (hRo 99) rMn3 rMn4 (hPl 99) rMn6 rMn7 rMn8 rMn9 rMn10 sMn ++ wPl K hPl gPl2 hPb sPl ++ wPb K hPb sPb ++ wRo K hRo sRo) sz)) 0 0 (va_A (wMn K hMn rMn0 (hRo 99) rMn3 rMn4 (hPl 99) rMn6 rMn7 rMn8 rMn9 rMn10 sMn ++ wPl K hPl gPl2 hPb sPl ++ wPb K hPb sPb ++ wRo K hRo sRo) sz) := by
  refine Met.ofW (cc := cX10_within) (maxL := 2) (ret := (some .int)) (by decide) rfl ?_
  intro p e s m args below meth c s₁ B hml hv
  obtain ⟨hargs, hsz, hP, hK, hD0⟩ := hv
  have hx := B.exec
  have hb := B.bytes
  have hr := B.returns
  have hts := atoms_spec (ws := wz_X10_within) B.pre
  have htl : ∀ w ∈ wsL_law, w.before args s = true := fun w h => hts w (List.mem_cons_of_mem _ h)
  have hown : s.vm.findClass RX10 = some m.cls := findClass_of_methodNamed B.named
  have hlocks := B.notSynchronized
  subst hsz
  have hD := hD0.self (sz := s.heap.size)
  generalize hAe : va_A (wMn K hMn rMn0 (hRo 99) rMn3 rMn4 (hPl 99) rMn6 rMn7 rMn8 rMn9 rMn10 sMn ++ wPl K hPl gPl2 hPb sPl ++ wPb K hPb sPb ++ wRo K hRo sRo) s.heap.size = A at hD ⊢
  have hA : ∀ q : Nat, s.heap.size ≤ q → A q := fun q h => by rw [← hAe]; exact Or.inr h
  have hS : va_S A s.heap s.heap [] := va_S.rf
  have iX10 : ∀ w ∈ wsX100, w ∈ wz_X10_within := fun w h => List.mem_cons_of_mem _ (inlX10 w h)
  suffices hgo : ∀ Q : State → Prop, Q = MQ below (va_Qi (fun r u => r = res.1 ∧ u = res.2) (fun u t => BW D K A (wMn K hMn rMn0 (hRo 99) rMn3 rMn4 (hPl 99) rMn6 rMn7 rMn8 rMn9 rMn10 u.1 ++ wPl K hPl gPl2 hPb sPl ++ wPb K hPb u.2 ++ wRo K hRo sRo) t) A) args s 0 0 A → W p l e (headSpec wz_X10_within r_X10_within).room s m args below meth c s.heap [] 0 0 Q (entryFrame m args 2) from hgo _ rfl
  intro Q hQ
  have w26 : ∀ (sMn : MS), ∀ (sPb : MS), ∀ (H : Heap) (locs : List Loc) (ls : Array Slot), f_X10_within_26 F sPl sRo p1 sMn sPb = some res → va_P D vwCl (wMn K hMn rMn0 (hRo 99) rMn3 rMn4 (hPl 99) rMn6 rMn7 rMn8 rMn9 rMn10 sMn ++ wPl K hPl gPl2 hPb sPl ++ wPb K hPb sPb ++ wRo K hRo sRo) H → va_D A (wMn K hMn rMn0 (hRo 99) rMn3 rMn4 (hPl 99) rMn6 rMn7 rMn8 rMn9 rMn10 sMn ++ wPl K hPl gPl2 hPb sPl ++ wPb K hPb sPb ++ wRo K hRo sRo) → va_S A s.heap H locs → lv_has ls 2 [(0, .ref (hMn 99))] → W p l e (headSpec wz_X10_within r_X10_within).room s m args below meth c H locs 0 0 Q (F0 m 26 ls []) := by
    intro sMn sPb H locs ls hf hP hD hS hl
    unfold f_X10_within_26 at hf
    refine lv_aload_n hx hb dX10_within_26 rfl (lv_at hl 0 rfl) ?_
    refine lv_iconst (v := (2 : Int32)) hx hb dX10_within_27 (by decide) ?_
    obtain ⟨o8, go8, hf⟩ := bd_s hf
    refine rk_Vi (wn := wMn K hMn rMn0 (hRo 99) rMn3 rMn4 (hPl 99) rMn6 rMn7 rMn8 rMn9 rMn10 o8.2 ++ wPl K hPl gPl2 hPb sPl ++ wPb K hPb sPb ++ wRo K hRo sRo) [wMn K hMn rMn0 (hRo 99) rMn3 rMn4 (hPl 99) rMn6 rMn7 rMn8 rMn9 rMn10 sMn, wPl K hPl gPl2 hPb sPl, wPb K hPb sPb, wRo K hRo sRo] [wMn K hMn rMn0 (hRo 99) rMn3 rMn4 (hPl 99) rMn6 rMn7 rMn8 rMn9 rMn10 sMn] [wMn K hMn rMn0 (hRo 99) rMn3 rMn4 (hPl 99) rMn6 rMn7 rMn8 rMn9 rMn10 o8.2] [wMn K hMn rMn0 (hRo 99) rMn3 rMn4 (hPl 99) rMn6 rMn7 rMn8 rMn9 rMn10 o8.2, wPl K hPl gPl2 hPb sPl, wPb K hPb sPb, wRo K hRo sRo] (As := [.int (2 : Int32)]) (rest := []) ⟨hx, hb, hml, hown, hts⟩ (c_X10_refuse l D K F hMn rMn0 (hRo 99) rMn3 rMn4 (hPl 99) rMn6 rMn7 rMn8 rMn9 rMn10 H.size sMn (2 : Int32) o8 go8) (cwV 1 hts (gcV_X10_refuse (mB7 _ (List.mem_of_getElem? (i := 18) rfl))) rfl rfl rfl hdV_X10_refuse ⟨Nat.le_of_ble_eq_true rfl, Nat.le_of_ble_eq_true rfl⟩) hK hP hD hS hA [0] (fl4 _ _ _ _) rfl (by decide) (fl1 _) (fl1 _) rfl rfl (fl4 _ _ _ _) (va_recv hK hP (ci := 9) (q0 := 0) rfl (rwl (rwl (rwl o_Mn)))) rfl hl.1 rfl (Nat.le_of_ble_eq_true rfl) dX10_within_28 ⟨Nat.zero_le _, Nat.zero_le _⟩ (fun H locs hP hD hS => ?_)
    have hP : va_P D vwCl (wMn K hMn rMn0 (hRo 99) rMn3 rMn4 (hPl 99) rMn6 rMn7 rMn8 rMn9 rMn10 o8.2 ++ wPl K hPl gPl2 hPb sPl ++ wPb K hPb sPb ++ wRo K hRo sRo) H := hP
    have hD : va_D A (wMn K hMn rMn0 (hRo 99) rMn3 rMn4 (hPl 99) rMn6 rMn7 rMn8 rMn9 rMn10 o8.2 ++ wPl K hPl gPl2 hPb sPl ++ wPb K hPb sPb ++ wRo K hRo sRo) := hD
    have e9 := Option.some.inj hf
    rw [hQ]
    exact W.iret (v := o8.1) hx hb hr (fun t ht hW => ⟨⟨o8.1, (o8.2, sPb), rfl, ⟨pr1 e9, pr2 e9⟩, ⟨by rw [ht]; exact hP, va_K.moved hW.alike hK, hD⟩⟩, hS.F ht⟩) hS.2.2 dX10_within_31
  have hen : entryFrame m args 2 = entryFrame m (([.ref (hMn 99), .int p1] : List Value).toArray) 2 := by rw [hargs]
  have hl := lv_entry ([.ref (hMn 99), .int p1]) (n := 2) (Nat.le_of_ble_eq_true rfl)
  rw [hen, lg_entry_eq]
  generalize (lg_sl ([.ref (hMn 99), .int p1]) ++ List.replicate (2 - (lg_sl ([.ref (hMn 99), .int p1])).length) Slot.unset).toArray = ls at hl ⊢
  have hl : lv_has ls 2 [(0, .ref (hMn 99)), (1, .int p1)] := hl
  unfold f_X10_within at hf
  obtain ⟨H, hHe⟩ : ∃ z, z = s.heap := ⟨_, rfl⟩
  obtain ⟨locs, hLe⟩ : ∃ z : List Loc, z = [] := ⟨_, rfl⟩
  rw [← hLe]
  have hS : va_S A s.heap H locs := by rw [hHe, hLe]; exact hS
  have hP : va_P D vwCl (wMn K hMn rMn0 (hRo 99) rMn3 rMn4 (hPl 99) rMn6 rMn7 rMn8 rMn9 rMn10 sMn ++ wPl K hPl gPl2 hPb sPl ++ wPb K hPb sPb ++ wRo K hRo sRo) H := by rw [hHe]; exact hP
  have hgo : W p l e (headSpec wz_X10_within r_X10_within).room s m args below meth c H locs 0 0 Q (F0 m 0 ls []) := by
    refine lv_aload_n hx hb dX10_within_0 rfl (lv_at hl 0 rfl) ?_
    refine va_get (D := D) (ci := 9) (v := .ref (hRo 99)) (C := RX10) (T := TX10) (N := 14) hx hb hts iX10 hown hK hP 0 (rwl (rwl (rwl o_Mn))) rfl 2 (by decide) (htl _ (mB1 _ (List.mem_of_getElem? (i := 18) rfl))) (fun _ h9 => h9) rfl dX10_within_1 ?_
    obtain ⟨o1, go1, hf⟩ := bd_s hf
    refine ro_Vi (As := []) (rest := []) ⟨hx, hb, hml, hown, hts⟩ (c_X9_isTold l D K F hRo sRo o1 go1) (cwV 0 hts (gcV_X9_isTold (mB30 _ (List.mem_of_getElem? (i := 0) rfl))) rfl rfl rfl hdV_X9_isTold ⟨Nat.le_of_ble_eq_true rfl, Nat.le_of_ble_eq_true rfl⟩) hK hP hS (va_PL (cs := [wMn K hMn rMn0 (hRo 99) rMn3 rMn4 (hPl 99) rMn6 rMn7 rMn8 rMn9 rMn10 sMn, wPl K hPl gPl2 hPb sPl, wPb K hPb sPb, wRo K hRo sRo]) (cc := [wRo K hRo sRo]) hP (fl4 _ _ _ _) [3] rfl (fl1 _)) (va_recv hK hP (ci := 8) (q0 := (((1 + 5) + 10) + 0)) rfl (rwr (lnA (lnA ln_Mn ln_Pl) ln_Pb) o_Ro)) rfl hl.1 rfl (Nat.le_of_ble_eq_true rfl) dX10_within_4 ⟨Nat.zero_le _, Nat.zero_le _⟩ (fun H locs hP hS => ?_)
    refine lv_if_ne (tgt := 16) hx hb dX10_within_7 (by decide) (fun c2 => ?_) (fun c2 => ?_)
    · have hf := it_f hf c2
      refine lv_iload_n hx hb dX10_within_16 rfl (lv_at hl 1 rfl) ?_
      refine lv_if_lt (tgt := 26) hx hb dX10_within_17 (by decide) (fun c3 => ?_) (fun c3 => ?_)
      · have hf := it_t hf c3
        exact w26 sMn sPb H locs ls hf hP hD hS (lv_sub hl [0] rfl)
      · have hf := it_f hf c3
        refine lv_iload_n hx hb dX10_within_20 rfl (lv_at hl 1 rfl) ?_
        refine lv_bipush (v := (9 : Int32)) hx hb dX10_within_21 (by decide) ?_
        refine lv_icmp_le (tgt := 32) hx hb dX10_within_23 (by decide) (fun c4 => ?_) (fun c4 => ?_)
        · have hf := it_t hf c4
          refine lv_aload_n hx hb dX10_within_32 rfl (lv_at hl 0 rfl) ?_
          refine lv_aload_n hx hb dX10_within_33 rfl (lv_at hl 0 rfl) ?_
          refine va_get (D := D) (ci := 9) (v := .ref (hPl 99)) (C := RX10) (T := TX10) (N := 14) hx hb hts iX10 hown hK hP 0 (rwl (rwl (rwl o_Mn))) rfl 5 (by decide) (htl _ (mB2 _ (List.mem_of_getElem? (i := 3) rfl))) (fun _ h9 => h9) rfl dX10_within_34 ?_
          refine lv_aload_n hx hb dX10_within_37 rfl (lv_at hl 0 rfl) ?_
          refine va_get (D := D) (ci := 9) (v := .ref (hRo 99)) (C := RX10) (T := TX10) (N := 14) hx hb hts iX10 hown hK hP 0 (rwl (rwl (rwl o_Mn))) rfl 2 (by decide) (htl _ (mB1 _ (List.mem_of_getElem? (i := 18) rfl))) (fun _ h9 => h9) rfl dX10_within_38 ?_
          refine lv_iload_n hx hb dX10_within_41 rfl (lv_at hl 1 rfl) ?_
          obtain ⟨o5, go5, hf⟩ := bd_s hf
          refine rk_Vi (wn := wMn K hMn rMn0 (hRo 99) rMn3 rMn4 (hPl 99) rMn6 rMn7 rMn8 rMn9 rMn10 sMn ++ wPl K hPl gPl2 hPb sPl ++ wPb K hPb o5.2 ++ wRo K hRo sRo) [wMn K hMn rMn0 (hRo 99) rMn3 rMn4 (hPl 99) rMn6 rMn7 rMn8 rMn9 rMn10 sMn, wPl K hPl gPl2 hPb sPl, wPb K hPb sPb, wRo K hRo sRo] [wPl K hPl gPl2 hPb sPl, wPb K hPb sPb, wRo K hRo sRo] [wPl K hPl gPl2 hPb sPl, wPb K hPb o5.2, wRo K hRo sRo] [wMn K hMn rMn0 (hRo 99) rMn3 rMn4 (hPl 99) rMn6 rMn7 rMn8 rMn9 rMn10 sMn, wPl K hPl gPl2 hPb sPl, wPb K hPb o5.2, wRo K hRo sRo] (As := [.ref (hRo 99), .int p1]) (rest := [.ref (hMn 99)]) ⟨hx, hb, hml, hown, hts⟩ (c_X6_leastWithin l D K F hPl gPl2 hPb hRo H.size sPl sPb sRo p1 o5 go5) (cwV 2 hts (gcV_X6_leastWithin (mB37 _ (List.mem_of_getElem? (i := 9) rfl))) rfl rfl rfl hdV_X6_leastWithin ⟨Nat.le_of_ble_eq_true rfl, Nat.le_of_ble_eq_true rfl⟩) hK hP hD hS hA [1, 2, 3] (fl4 _ _ _ _) rfl (by decide) (fl3 _ _ _) (fl3 _ _ _) rfl rfl (fl4 _ _ _ _) (va_recv hK hP (ci := 5) (q0 := (1 + 0)) rfl (rwl (rwl (rwr ln_Mn o_Pl)))) rfl hl.1 rfl (Nat.le_of_ble_eq_true rfl) dX10_within_42 ⟨Nat.zero_le _, Nat.zero_le _⟩ (fun H locs hP hD hS => ?_)
          have hP : va_P D vwCl (wMn K hMn rMn0 (hRo 99) rMn3 rMn4 (hPl 99) rMn6 rMn7 rMn8 rMn9 rMn10 sMn ++ wPl K hPl gPl2 hPb sPl ++ wPb K hPb o5.2 ++ wRo K hRo sRo) H := hP
          have hD : va_D A (wMn K hMn rMn0 (hRo 99) rMn3 rMn4 (hPl 99) rMn6 rMn7 rMn8 rMn9 rMn10 sMn ++ wPl K hPl gPl2 hPb sPl ++ wPb K hPb o5.2 ++ wRo K hRo sRo) := hD
          obtain ⟨o6, go6, hf⟩ := bd_s hf
          refine rk_Vi (wn := wMn K hMn rMn0 (hRo 99) rMn3 rMn4 (hPl 99) rMn6 rMn7 rMn8 rMn9 rMn10 o6.2 ++ wPl K hPl gPl2 hPb sPl ++ wPb K hPb o5.2 ++ wRo K hRo sRo) [wMn K hMn rMn0 (hRo 99) rMn3 rMn4 (hPl 99) rMn6 rMn7 rMn8 rMn9 rMn10 sMn, wPl K hPl gPl2 hPb sPl, wPb K hPb o5.2, wRo K hRo sRo] [wMn K hMn rMn0 (hRo 99) rMn3 rMn4 (hPl 99) rMn6 rMn7 rMn8 rMn9 rMn10 sMn] [wMn K hMn rMn0 (hRo 99) rMn3 rMn4 (hPl 99) rMn6 rMn7 rMn8 rMn9 rMn10 o6.2] [wMn K hMn rMn0 (hRo 99) rMn3 rMn4 (hPl 99) rMn6 rMn7 rMn8 rMn9 rMn10 o6.2, wPl K hPl gPl2 hPb sPl, wPb K hPb o5.2, wRo K hRo sRo] (As := [.int o5.1]) (rest := []) ⟨hx, hb, hml, hown, hts⟩ (c_X10_accept l D K F hMn rMn0 (hRo 99) rMn3 rMn4 (hPl 99) rMn6 rMn7 rMn8 rMn9 rMn10 H.size sMn o5.1 o6 go6) (cwV 1 hts (gcV_X10_accept (mB17 _ (List.mem_of_getElem? (i := 14) rfl))) rfl rfl rfl hdV_X10_accept ⟨Nat.le_of_ble_eq_true rfl, Nat.le_of_ble_eq_true rfl⟩) hK hP hD hS hA [0] (fl4 _ _ _ _) rfl (by decide) (fl1 _) (fl1 _) rfl rfl (fl4 _ _ _ _) (va_recv hK hP (ci := 9) (q0 := 0) rfl (rwl (rwl (rwl o_Mn)))) rfl hl.1 rfl (Nat.le_of_ble_eq_true rfl) dX10_within_45 ⟨Nat.zero_le _, Nat.zero_le _⟩ (fun H locs hP hD hS => ?_)
          have hP : va_P D vwCl (wMn K hMn rMn0 (hRo 99) rMn3 rMn4 (hPl 99) rMn6 rMn7 rMn8 rMn9 rMn10 o6.2 ++ wPl K hPl gPl2 hPb sPl ++ wPb K hPb o5.2 ++ wRo K hRo sRo) H := hP
          have hD : va_D A (wMn K hMn rMn0 (hRo 99) rMn3 rMn4 (hPl 99) rMn6 rMn7 rMn8 rMn9 rMn10 o6.2 ++ wPl K hPl gPl2 hPb sPl ++ wPb K hPb o5.2 ++ wRo K hRo sRo) := hD
          have e9 := Option.some.inj hf
          rw [hQ]
          exact W.iret (v := o6.1) hx hb hr (fun t ht hW => ⟨⟨o6.1, (o6.2, o5.2), rfl, ⟨pr1 e9, pr2 e9⟩, ⟨by rw [ht]; exact hP, va_K.moved hW.alike hK, hD⟩⟩, hS.F ht⟩) hS.2.2 dX10_within_48
        · have hf := it_f hf c4
          exact w26 sMn sPb H locs ls hf hP hD hS (lv_sub hl [0] rfl)
    · have hf := it_t hf c2
      refine lv_aload_n hx hb dX10_within_10 rfl (lv_at hl 0 rfl) ?_
      refine lv_iconst (v := (1 : Int32)) hx hb dX10_within_11 (by decide) ?_
      obtain ⟨o7, go7, hf⟩ := bd_s hf
      refine rk_Vi (wn := wMn K hMn rMn0 (hRo 99) rMn3 rMn4 (hPl 99) rMn6 rMn7 rMn8 rMn9 rMn10 o7.2 ++ wPl K hPl gPl2 hPb sPl ++ wPb K hPb sPb ++ wRo K hRo sRo) [wMn K hMn rMn0 (hRo 99) rMn3 rMn4 (hPl 99) rMn6 rMn7 rMn8 rMn9 rMn10 sMn, wPl K hPl gPl2 hPb sPl, wPb K hPb sPb, wRo K hRo sRo] [wMn K hMn rMn0 (hRo 99) rMn3 rMn4 (hPl 99) rMn6 rMn7 rMn8 rMn9 rMn10 sMn] [wMn K hMn rMn0 (hRo 99) rMn3 rMn4 (hPl 99) rMn6 rMn7 rMn8 rMn9 rMn10 o7.2] [wMn K hMn rMn0 (hRo 99) rMn3 rMn4 (hPl 99) rMn6 rMn7 rMn8 rMn9 rMn10 o7.2, wPl K hPl gPl2 hPb sPl, wPb K hPb sPb, wRo K hRo sRo] (As := [.int (1 : Int32)]) (rest := []) ⟨hx, hb, hml, hown, hts⟩ (c_X10_refuse l D K F hMn rMn0 (hRo 99) rMn3 rMn4 (hPl 99) rMn6 rMn7 rMn8 rMn9 rMn10 H.size sMn (1 : Int32) o7 go7) (cwV 1 hts (gcV_X10_refuse (mB7 _ (List.mem_of_getElem? (i := 18) rfl))) rfl rfl rfl hdV_X10_refuse ⟨Nat.le_of_ble_eq_true rfl, Nat.le_of_ble_eq_true rfl⟩) hK hP hD hS hA [0] (fl4 _ _ _ _) rfl (by decide) (fl1 _) (fl1 _) rfl rfl (fl4 _ _ _ _) (va_recv hK hP (ci := 9) (q0 := 0) rfl (rwl (rwl (rwl o_Mn)))) rfl hl.1 rfl (Nat.le_of_ble_eq_true rfl) dX10_within_12 ⟨Nat.zero_le _, Nat.zero_le _⟩ (fun H locs hP hD hS => ?_)
      have hP : va_P D vwCl (wMn K hMn rMn0 (hRo 99) rMn3 rMn4 (hPl 99) rMn6 rMn7 rMn8 rMn9 rMn10 o7.2 ++ wPl K hPl gPl2 hPb sPl ++ wPb K hPb sPb ++ wRo K hRo sRo) H := hP
      have hD : va_D A (wMn K hMn rMn0 (hRo 99) rMn3 rMn4 (hPl 99) rMn6 rMn7 rMn8 rMn9 rMn10 o7.2 ++ wPl K hPl gPl2 hPb sPl ++ wPb K hPb sPb ++ wRo K hRo sRo) := hD
      have e9 := Option.some.inj hf
      rw [hQ]
      exact W.iret (v := o7.1) hx hb hr (fun t ht hW => ⟨⟨o7.1, (o7.2, sPb), rfl, ⟨pr1 e9, pr2 e9⟩, ⟨by rw [ht]; exact hP, va_K.moved hW.alike hK, hD⟩⟩, hS.F ht⟩) hS.2.2 dX10_within_15
  rw [hHe] at hgo
  exact hgo

theorem gcV_X6_cheapestRest {T0 : Cond} {own : String} {i : Nat} (h : Cond.methodLink own i yX6_cheapestRest ∈ wsL_law) : GoodIn (T0 :: wsL_law) (wsV own i RX6 yX6_cheapestRest wz_X6_cheapestRest) := gV h (mB38 _ (List.mem_of_getElem? (i := 2) rfl)) (mB38 _ (List.mem_of_getElem? (i := 3) rfl)) (mB2 _ (List.mem_of_getElem? (i := 2) rfl)) (mB38 _ (List.mem_of_getElem? (i := 4) rfl))
theorem hdV_X6_cheapestRest : yX6_cheapestRest.cls = RX6 ∧ yX6_cheapestRest.cls ≠ "java/lang/invoke/MethodHandle" ∧ yX6_cheapestRest.cls ≠ "java/lang/invoke/VarHandle" ∧ (parseMethodDescriptor yX6_cheapestRest.desc).map (fun d => d.parameters.length) = some 1 := by decide +kernel
def wz_X10_rest : List Cond := .code yX10_rest cX10_rest 1 (some .int) :: wsL_law
abbrev r_X10_rest : Room := { frames := 5, cells := 0, slots := 0, locals := 122 }
set_option maxHeartbeats 4000000 in
set_option maxRecDepth 100000 in
theorem c_X10_rest (l : Launch) (D : va_G) (K : Nat → ClassId) (F : Nat) (hMn : Nat → Nat) (rMn0 : Nat) (rMn3 : Nat) (rMn4 : Nat) (rMn6 : Nat) (rMn7 : Nat) (rMn8 : Nat) (rMn9 : Nat) (rMn10 : Nat) (hPl : Nat → Nat) (gPl3 : Nat → Nat) (hPc : Nat → Nat) (hRo : Nat → Nat) (sz : Nat) (sMn : MS) (sPl : MS) (sPc : MS) (sRo : MS) (res : Int32 × MS × MS × MS) (hf : f_X10_rest F sRo sMn sPl sPc = some res) : Met l yX10_rest wz_X10_rest r_X10_rest (va_Pc [.ref (hMn 99)] (PW D K (wMn K hMn rMn0 (hRo 99) rMn3 rMn4 (hPl 99) rMn6 rMn7 rMn8 rMn9 rMn10 sMn ++ wPl K hPl hPc gPl3 sPl ++ wPc K hPc sPc ++ wRo K hRo sRo) sz)) (va_Qi (fun r u => r = res.1 ∧ u = res.2) (fun u t => BW D K (va_A (wMn K hMn rMn0 (hRo 99) rMn3 rMn4 (hPl 99) rMn6 rMn7 rMn8 rMn9 rMn10 sMn ++ wPl K hPl hPc gPl3 sPl ++ wPc K hPc sPc ++ wRo K hRo sRo) sz) (wMn K hMn rMn0 (hRo 99) rMn3 rMn4 (hPl 99) rMn6 rMn7 rMn8 rMn9 rMn10 u.1 ++ wPl K hPl hPc gPl3 u.2.1 ++ wPc K hPc u.2.2 ++ wRo K hRo sRo) t) (va_A (wMn K hMn rMn0 (hRo 99) rMn3 rMn4 (hPl 99) rMn6 rMn7 rMn8 rMn9 rMn10 sMn ++ wPl K hPl hPc gPl3 sPl ++ wPc K hPc sPc ++ wRo K hRo sRo) sz)) 0 0 (va_A (wMn K hMn rMn0 (hRo 99) rMn3 rMn4 (hPl 99) rMn6 rMn7 rMn8 rMn9 rMn10 sMn ++ wPl K hPl hPc gPl3 sPl ++ wPc K hPc sPc ++ wRo K hRo sRo) sz) := by
  refine Met.ofW (cc := cX10_rest) (maxL := 1) (ret := (some .int)) (by decide) rfl ?_
  intro p e s m args below meth c s₁ B hml hv
  obtain ⟨hargs, hsz, hP, hK, hD0⟩ := hv
  have hx := B.exec
  have hb := B.bytes
  have hr := B.returns
  have hts := atoms_spec (ws := wz_X10_rest) B.pre
  have htl : ∀ w ∈ wsL_law, w.before args s = true := fun w h => hts w (List.mem_cons_of_mem _ h)
  have hown : s.vm.findClass RX10 = some m.cls := findClass_of_methodNamed B.named
  have hlocks := B.notSynchronized
  subst hsz
  have hD := hD0.self (sz := s.heap.size)
  generalize hAe : va_A (wMn K hMn rMn0 (hRo 99) rMn3 rMn4 (hPl 99) rMn6 rMn7 rMn8 rMn9 rMn10 sMn ++ wPl K hPl hPc gPl3 sPl ++ wPc K hPc sPc ++ wRo K hRo sRo) s.heap.size = A at hD ⊢
  have hA : ∀ q : Nat, s.heap.size ≤ q → A q := fun q h => by rw [← hAe]; exact Or.inr h
  have hS : va_S A s.heap s.heap [] := va_S.rf
  have iX10 : ∀ w ∈ wsX100, w ∈ wz_X10_rest := fun w h => List.mem_cons_of_mem _ (inlX10 w h)
  suffices hgo : ∀ Q : State → Prop, Q = MQ below (va_Qi (fun r u => r = res.1 ∧ u = res.2) (fun u t => BW D K A (wMn K hMn rMn0 (hRo 99) rMn3 rMn4 (hPl 99) rMn6 rMn7 rMn8 rMn9 rMn10 u.1 ++ wPl K hPl hPc gPl3 u.2.1 ++ wPc K hPc u.2.2 ++ wRo K hRo sRo) t) A) args s 0 0 A → W p l e (headSpec wz_X10_rest r_X10_rest).room s m args below meth c s.heap [] 0 0 Q (entryFrame m args 1) from hgo _ rfl
  intro Q hQ
  have hen : entryFrame m args 1 = entryFrame m (([.ref (hMn 99)] : List Value).toArray) 1 := by rw [hargs]
  have hl := lv_entry ([.ref (hMn 99)]) (n := 1) (Nat.le_of_ble_eq_true rfl)
  rw [hen, lg_entry_eq]
  generalize (lg_sl ([.ref (hMn 99)]) ++ List.replicate (1 - (lg_sl ([.ref (hMn 99)])).length) Slot.unset).toArray = ls at hl ⊢
  have hl : lv_has ls 1 [(0, .ref (hMn 99))] := hl
  unfold f_X10_rest at hf
  obtain ⟨H, hHe⟩ : ∃ z, z = s.heap := ⟨_, rfl⟩
  obtain ⟨locs, hLe⟩ : ∃ z : List Loc, z = [] := ⟨_, rfl⟩
  rw [← hLe]
  have hS : va_S A s.heap H locs := by rw [hHe, hLe]; exact hS
  have hP : va_P D vwCl (wMn K hMn rMn0 (hRo 99) rMn3 rMn4 (hPl 99) rMn6 rMn7 rMn8 rMn9 rMn10 sMn ++ wPl K hPl hPc gPl3 sPl ++ wPc K hPc sPc ++ wRo K hRo sRo) H := by rw [hHe]; exact hP
  have hgo : W p l e (headSpec wz_X10_rest r_X10_rest).room s m args below meth c H locs 0 0 Q (F0 m 0 ls []) := by
    refine lv_aload_n hx hb dX10_rest_0 rfl (lv_at hl 0 rfl) ?_
    refine va_get (D := D) (ci := 9) (v := .ref (hRo 99)) (C := RX10) (T := TX10) (N := 14) hx hb hts iX10 hown hK hP 0 (rwl (rwl (rwl o_Mn))) rfl 2 (by decide) (htl _ (mB1 _ (List.mem_of_getElem? (i := 18) rfl))) (fun _ h9 => h9) rfl dX10_rest_1 ?_
    obtain ⟨o1, go1, hf⟩ := bd_s hf
    refine ro_Vi (As := []) (rest := []) ⟨hx, hb, hml, hown, hts⟩ (c_X9_isTold l D K F hRo sRo o1 go1) (cwV 0 hts (gcV_X9_isTold (mB30 _ (List.mem_of_getElem? (i := 0) rfl))) rfl rfl rfl hdV_X9_isTold ⟨Nat.le_of_ble_eq_true rfl, Nat.le_of_ble_eq_true rfl⟩) hK hP hS (va_PL (cs := [wMn K hMn rMn0 (hRo 99) rMn3 rMn4 (hPl 99) rMn6 rMn7 rMn8 rMn9 rMn10 sMn, wPl K hPl hPc gPl3 sPl, wPc K hPc sPc, wRo K hRo sRo]) (cc := [wRo K hRo sRo]) hP (fl4 _ _ _ _) [3] rfl (fl1 _)) (va_recv hK hP (ci := 8) (q0 := (((1 + 5) + 9) + 0)) rfl (rwr (lnA (lnA ln_Mn ln_Pl) ln_Pc) o_Ro)) rfl hl.1 rfl (Nat.le_of_ble_eq_true rfl) dX10_rest_4 ⟨Nat.zero_le _, Nat.zero_le _⟩ (fun H locs hP hS => ?_)
    refine lv_if_ne (tgt := 16) hx hb dX10_rest_7 (by decide) (fun c2 => ?_) (fun c2 => ?_)
    · have hf := it_f hf c2
      refine lv_aload_n hx hb dX10_rest_16 rfl (lv_at hl 0 rfl) ?_
      refine lv_aload_n hx hb dX10_rest_17 rfl (lv_at hl 0 rfl) ?_
      refine va_get (D := D) (ci := 9) (v := .ref (hPl 99)) (C := RX10) (T := TX10) (N := 14) hx hb hts iX10 hown hK hP 0 (rwl (rwl (rwl o_Mn))) rfl 5 (by decide) (htl _ (mB2 _ (List.mem_of_getElem? (i := 3) rfl))) (fun _ h9 => h9) rfl dX10_rest_18 ?_
      refine lv_aload_n hx hb dX10_rest_21 rfl (lv_at hl 0 rfl) ?_
      refine va_get (D := D) (ci := 9) (v := .ref (hRo 99)) (C := RX10) (T := TX10) (N := 14) hx hb hts iX10 hown hK hP 0 (rwl (rwl (rwl o_Mn))) rfl 2 (by decide) (htl _ (mB1 _ (List.mem_of_getElem? (i := 18) rfl))) (fun _ h9 => h9) rfl dX10_rest_22 ?_
      obtain ⟨o3, go3, hf⟩ := bd_s hf
      refine rk_Vi (wn := wMn K hMn rMn0 (hRo 99) rMn3 rMn4 (hPl 99) rMn6 rMn7 rMn8 rMn9 rMn10 sMn ++ wPl K hPl hPc gPl3 o3.2.1 ++ wPc K hPc o3.2.2 ++ wRo K hRo sRo) [wMn K hMn rMn0 (hRo 99) rMn3 rMn4 (hPl 99) rMn6 rMn7 rMn8 rMn9 rMn10 sMn, wPl K hPl hPc gPl3 sPl, wPc K hPc sPc, wRo K hRo sRo] [wPl K hPl hPc gPl3 sPl, wPc K hPc sPc, wRo K hRo sRo] [wPl K hPl hPc gPl3 o3.2.1, wPc K hPc o3.2.2, wRo K hRo sRo] [wMn K hMn rMn0 (hRo 99) rMn3 rMn4 (hPl 99) rMn6 rMn7 rMn8 rMn9 rMn10 sMn, wPl K hPl hPc gPl3 o3.2.1, wPc K hPc o3.2.2, wRo K hRo sRo] (As := [.ref (hRo 99)]) (rest := [.ref (hMn 99)]) ⟨hx, hb, hml, hown, hts⟩ (c_X6_cheapestRest l D K F hPl gPl3 hPc hRo H.size sPl sPc sRo o3 go3) (cwV 1 hts (gcV_X6_cheapestRest (mB38 _ (List.mem_of_getElem? (i := 1) rfl))) rfl rfl rfl hdV_X6_cheapestRest ⟨Nat.le_of_ble_eq_true rfl, Nat.le_of_ble_eq_true rfl⟩) hK hP hD hS hA [1, 2, 3] (fl4 _ _ _ _) rfl (by decide) (fl3 _ _ _) (fl3 _ _ _) rfl rfl (fl4 _ _ _ _) (va_recv hK hP (ci := 5) (q0 := (1 + 0)) rfl (rwl (rwl (rwr ln_Mn o_Pl)))) rfl hl.1 rfl (Nat.le_of_ble_eq_true rfl) dX10_rest_25 ⟨Nat.zero_le _, Nat.zero_le _⟩ (fun H locs hP hD hS => ?_)
      have hP : va_P D vwCl (wMn K hMn rMn0 (hRo 99) rMn3 rMn4 (hPl 99) rMn6 rMn7 rMn8 rMn9 rMn10 sMn ++ wPl K hPl hPc gPl3 o3.2.1 ++ wPc K hPc o3.2.2 ++ wRo K hRo sRo) H := hP
      have hD : va_D A (wMn K hMn rMn0 (hRo 99) rMn3 rMn4 (hPl 99) rMn6 rMn7 rMn8 rMn9 rMn10 sMn ++ wPl K hPl hPc gPl3 o3.2.1 ++ wPc K hPc o3.2.2 ++ wRo K hRo sRo) := hD
      obtain ⟨o4, go4, hf⟩ := bd_s hf
      refine rk_Vi (wn := wMn K hMn rMn0 (hRo 99) rMn3 rMn4 (hPl 99) rMn6 rMn7 rMn8 rMn9 rMn10 o4.2 ++ wPl K hPl hPc gPl3 o3.2.1 ++ wPc K hPc o3.2.2 ++ wRo K hRo sRo) [wMn K hMn rMn0 (hRo 99) rMn3 rMn4 (hPl 99) rMn6 rMn7 rMn8 rMn9 rMn10 sMn, wPl K hPl hPc gPl3 o3.2.1, wPc K hPc o3.2.2, wRo K hRo sRo] [wMn K hMn rMn0 (hRo 99) rMn3 rMn4 (hPl 99) rMn6 rMn7 rMn8 rMn9 rMn10 sMn] [wMn K hMn rMn0 (hRo 99) rMn3 rMn4 (hPl 99) rMn6 rMn7 rMn8 rMn9 rMn10 o4.2] [wMn K hMn rMn0 (hRo 99) rMn3 rMn4 (hPl 99) rMn6 rMn7 rMn8 rMn9 rMn10 o4.2, wPl K hPl hPc gPl3 o3.2.1, wPc K hPc o3.2.2, wRo K hRo sRo] (As := [.int o3.1]) (rest := []) ⟨hx, hb, hml, hown, hts⟩ (c_X10_accept l D K F hMn rMn0 (hRo 99) rMn3 rMn4 (hPl 99) rMn6 rMn7 rMn8 rMn9 rMn10 H.size sMn o3.1 o4 go4) (cwV 1 hts (gcV_X10_accept (mB17 _ (List.mem_of_getElem? (i := 14) rfl))) rfl rfl rfl hdV_X10_accept ⟨Nat.le_of_ble_eq_true rfl, Nat.le_of_ble_eq_true rfl⟩) hK hP hD hS hA [0] (fl4 _ _ _ _) rfl (by decide) (fl1 _) (fl1 _) rfl rfl (fl4 _ _ _ _) (va_recv hK hP (ci := 9) (q0 := 0) rfl (rwl (rwl (rwl o_Mn)))) rfl hl.1 rfl (Nat.le_of_ble_eq_true rfl) dX10_rest_28 ⟨Nat.zero_le _, Nat.zero_le _⟩ (fun H locs hP hD hS => ?_)
      have hP : va_P D vwCl (wMn K hMn rMn0 (hRo 99) rMn3 rMn4 (hPl 99) rMn6 rMn7 rMn8 rMn9 rMn10 o4.2 ++ wPl K hPl hPc gPl3 o3.2.1 ++ wPc K hPc o3.2.2 ++ wRo K hRo sRo) H := hP
      have hD : va_D A (wMn K hMn rMn0 (hRo 99) rMn3 rMn4 (hPl 99) rMn6 rMn7 rMn8 rMn9 rMn10 o4.2 ++ wPl K hPl hPc gPl3 o3.2.1 ++ wPc K hPc o3.2.2 ++ wRo K hRo sRo) := hD
      have e9 := Option.some.inj hf
      rw [hQ]
      exact W.iret (v := o4.1) hx hb hr (fun t ht hW => ⟨⟨o4.1, (o4.2, o3.2.1, o3.2.2), rfl, ⟨pr1 e9, pr2 e9⟩, ⟨by rw [ht]; exact hP, va_K.moved hW.alike hK, hD⟩⟩, hS.F ht⟩) hS.2.2 dX10_rest_31
    · have hf := it_t hf c2
      refine lv_aload_n hx hb dX10_rest_10 rfl (lv_at hl 0 rfl) ?_
      refine lv_iconst (v := (1 : Int32)) hx hb dX10_rest_11 (by decide) ?_
      obtain ⟨o5, go5, hf⟩ := bd_s hf
      refine rk_Vi (wn := wMn K hMn rMn0 (hRo 99) rMn3 rMn4 (hPl 99) rMn6 rMn7 rMn8 rMn9 rMn10 o5.2 ++ wPl K hPl hPc gPl3 sPl ++ wPc K hPc sPc ++ wRo K hRo sRo) [wMn K hMn rMn0 (hRo 99) rMn3 rMn4 (hPl 99) rMn6 rMn7 rMn8 rMn9 rMn10 sMn, wPl K hPl hPc gPl3 sPl, wPc K hPc sPc, wRo K hRo sRo] [wMn K hMn rMn0 (hRo 99) rMn3 rMn4 (hPl 99) rMn6 rMn7 rMn8 rMn9 rMn10 sMn] [wMn K hMn rMn0 (hRo 99) rMn3 rMn4 (hPl 99) rMn6 rMn7 rMn8 rMn9 rMn10 o5.2] [wMn K hMn rMn0 (hRo 99) rMn3 rMn4 (hPl 99) rMn6 rMn7 rMn8 rMn9 rMn10 o5.2, wPl K hPl hPc gPl3 sPl, wPc K hPc sPc, wRo K hRo sRo] (As := [.int (1 : Int32)]) (rest := []) ⟨hx, hb, hml, hown, hts⟩ (c_X10_refuse l D K F hMn rMn0 (hRo 99) rMn3 rMn4 (hPl 99) rMn6 rMn7 rMn8 rMn9 rMn10 H.size sMn (1 : Int32) o5 go5) (cwV 1 hts (gcV_X10_refuse (mB7 _ (List.mem_of_getElem? (i := 18) rfl))) rfl rfl rfl hdV_X10_refuse ⟨Nat.le_of_ble_eq_true rfl, Nat.le_of_ble_eq_true rfl⟩) hK hP hD hS hA [0] (fl4 _ _ _ _) rfl (by decide) (fl1 _) (fl1 _) rfl rfl (fl4 _ _ _ _) (va_recv hK hP (ci := 9) (q0 := 0) rfl (rwl (rwl (rwl o_Mn)))) rfl hl.1 rfl (Nat.le_of_ble_eq_true rfl) dX10_rest_12 ⟨Nat.zero_le _, Nat.zero_le _⟩ (fun H locs hP hD hS => ?_)
      have hP : va_P D vwCl (wMn K hMn rMn0 (hRo 99) rMn3 rMn4 (hPl 99) rMn6 rMn7 rMn8 rMn9 rMn10 o5.2 ++ wPl K hPl hPc gPl3 sPl ++ wPc K hPc sPc ++ wRo K hRo sRo) H := hP
      have hD : va_D A (wMn K hMn rMn0 (hRo 99) rMn3 rMn4 (hPl 99) rMn6 rMn7 rMn8 rMn9 rMn10 o5.2 ++ wPl K hPl hPc gPl3 sPl ++ wPc K hPc sPc ++ wRo K hRo sRo) := hD
      have e9 := Option.some.inj hf
      rw [hQ]
      exact W.iret (v := o5.1) hx hb hr (fun t ht hW => ⟨⟨o5.1, (o5.2, sPl, sPc), rfl, ⟨pr1 e9, pr2 e9⟩, ⟨by rw [ht]; exact hP, va_K.moved hW.alike hK, hD⟩⟩, hS.F ht⟩) hS.2.2 dX10_rest_15
  rw [hHe] at hgo
  exact hgo

theorem gcV_X6_leastBeginning {T0 : Cond} {own : String} {i : Nat} (h : Cond.methodLink own i yX6_leastBeginning ∈ wsL_law) : GoodIn (T0 :: wsL_law) (wsV own i RX6 yX6_leastBeginning wz_X6_leastBeginning) := gV h (mB38 _ (List.mem_of_getElem? (i := 14) rfl)) (mB38 _ (List.mem_of_getElem? (i := 15) rfl)) (mB2 _ (List.mem_of_getElem? (i := 2) rfl)) (mB38 _ (List.mem_of_getElem? (i := 16) rfl))
theorem hdV_X6_leastBeginning : yX6_leastBeginning.cls = RX6 ∧ yX6_leastBeginning.cls ≠ "java/lang/invoke/MethodHandle" ∧ yX6_leastBeginning.cls ≠ "java/lang/invoke/VarHandle" ∧ (parseMethodDescriptor yX6_leastBeginning.desc).map (fun d => d.parameters.length) = some 1 := by decide +kernel
def wz_X10_need : List Cond := .code yX10_need cX10_need 1 (some .int) :: wsL_law
abbrev r_X10_need : Room := { frames := 4, cells := 0, slots := 0, locals := 101 }
set_option maxHeartbeats 4000000 in
set_option maxRecDepth 100000 in
theorem c_X10_need (l : Launch) (D : va_G) (K : Nat → ClassId) (F : Nat) (hMn : Nat → Nat) (rMn0 : Nat) (rMn3 : Nat) (rMn4 : Nat) (rMn6 : Nat) (rMn7 : Nat) (rMn8 : Nat) (rMn9 : Nat) (rMn10 : Nat) (hPl : Nat → Nat) (gPl3 : Nat → Nat) (hPc : Nat → Nat) (hRo : Nat → Nat) (sz : Nat) (sMn : MS) (sPl : MS) (sPc : MS) (sRo : MS) (res : Int32 × MS × MS × MS) (hf : f_X10_need F sRo sMn sPl sPc = some res) : Met l yX10_need wz_X10_need r_X10_need (va_Pc [.ref (hMn 99)] (PW D K (wMn K hMn rMn0 (hRo 99) rMn3 rMn4 (hPl 99) rMn6 rMn7 rMn8 rMn9 rMn10 sMn ++ wPl K hPl hPc gPl3 sPl ++ wPc K hPc sPc ++ wRo K hRo sRo) sz)) (va_Qi (fun r u => r = res.1 ∧ u = res.2) (fun u t => BW D K (va_A (wMn K hMn rMn0 (hRo 99) rMn3 rMn4 (hPl 99) rMn6 rMn7 rMn8 rMn9 rMn10 sMn ++ wPl K hPl hPc gPl3 sPl ++ wPc K hPc sPc ++ wRo K hRo sRo) sz) (wMn K hMn rMn0 (hRo 99) rMn3 rMn4 (hPl 99) rMn6 rMn7 rMn8 rMn9 rMn10 u.1 ++ wPl K hPl hPc gPl3 u.2.1 ++ wPc K hPc u.2.2 ++ wRo K hRo sRo) t) (va_A (wMn K hMn rMn0 (hRo 99) rMn3 rMn4 (hPl 99) rMn6 rMn7 rMn8 rMn9 rMn10 sMn ++ wPl K hPl hPc gPl3 sPl ++ wPc K hPc sPc ++ wRo K hRo sRo) sz)) 0 0 (va_A (wMn K hMn rMn0 (hRo 99) rMn3 rMn4 (hPl 99) rMn6 rMn7 rMn8 rMn9 rMn10 sMn ++ wPl K hPl hPc gPl3 sPl ++ wPc K hPc sPc ++ wRo K hRo sRo) sz) := by
  refine Met.ofW (cc := cX10_need) (maxL := 1) (ret := (some .int)) (by decide) rfl ?_
  intro p e s m args below meth c s₁ B hml hv
  obtain ⟨hargs, hsz, hP, hK, hD0⟩ := hv
  have hx := B.exec
  have hb := B.bytes
  have hr := B.returns
  have hts := atoms_spec (ws := wz_X10_need) B.pre
  have htl : ∀ w ∈ wsL_law, w.before args s = true := fun w h => hts w (List.mem_cons_of_mem _ h)
  have hown : s.vm.findClass RX10 = some m.cls := findClass_of_methodNamed B.named
  have hlocks := B.notSynchronized
  subst hsz
  have hD := hD0.self (sz := s.heap.size)
  generalize hAe : va_A (wMn K hMn rMn0 (hRo 99) rMn3 rMn4 (hPl 99) rMn6 rMn7 rMn8 rMn9 rMn10 sMn ++ wPl K hPl hPc gPl3 sPl ++ wPc K hPc sPc ++ wRo K hRo sRo) s.heap.size = A at hD ⊢
  have hA : ∀ q : Nat, s.heap.size ≤ q → A q := fun q h => by rw [← hAe]; exact Or.inr h
  have hS : va_S A s.heap s.heap [] := va_S.rf
  have iX10 : ∀ w ∈ wsX100, w ∈ wz_X10_need := fun w h => List.mem_cons_of_mem _ (inlX10 w h)
  suffices hgo : ∀ Q : State → Prop, Q = MQ below (va_Qi (fun r u => r = res.1 ∧ u = res.2) (fun u t => BW D K A (wMn K hMn rMn0 (hRo 99) rMn3 rMn4 (hPl 99) rMn6 rMn7 rMn8 rMn9 rMn10 u.1 ++ wPl K hPl hPc gPl3 u.2.1 ++ wPc K hPc u.2.2 ++ wRo K hRo sRo) t) A) args s 0 0 A → W p l e (headSpec wz_X10_need r_X10_need).room s m args below meth c s.heap [] 0 0 Q (entryFrame m args 1) from hgo _ rfl
  intro Q hQ
  have hen : entryFrame m args 1 = entryFrame m (([.ref (hMn 99)] : List Value).toArray) 1 := by rw [hargs]
  have hl := lv_entry ([.ref (hMn 99)]) (n := 1) (Nat.le_of_ble_eq_true rfl)
  rw [hen, lg_entry_eq]
  generalize (lg_sl ([.ref (hMn 99)]) ++ List.replicate (1 - (lg_sl ([.ref (hMn 99)])).length) Slot.unset).toArray = ls at hl ⊢
  have hl : lv_has ls 1 [(0, .ref (hMn 99))] := hl
  unfold f_X10_need at hf
  obtain ⟨H, hHe⟩ : ∃ z, z = s.heap := ⟨_, rfl⟩
  obtain ⟨locs, hLe⟩ : ∃ z : List Loc, z = [] := ⟨_, rfl⟩
  rw [← hLe]
  have hS : va_S A s.heap H locs := by rw [hHe, hLe]; exact hS
  have hP : va_P D vwCl (wMn K hMn rMn0 (hRo 99) rMn3 rMn4 (hPl 99) rMn6 rMn7 rMn8 rMn9 rMn10 sMn ++ wPl K hPl hPc gPl3 sPl ++ wPc K hPc sPc ++ wRo K hRo sRo) H := by rw [hHe]; exact hP
  have hgo : W p l e (headSpec wz_X10_need r_X10_need).room s m args below meth c H locs 0 0 Q (F0 m 0 ls []) := by
    refine lv_aload_n hx hb dX10_need_0 rfl (lv_at hl 0 rfl) ?_
    refine va_get (D := D) (ci := 9) (v := .ref (hRo 99)) (C := RX10) (T := TX10) (N := 14) hx hb hts iX10 hown hK hP 0 (rwl (rwl (rwl o_Mn))) rfl 2 (by decide) (htl _ (mB1 _ (List.mem_of_getElem? (i := 18) rfl))) (fun _ h9 => h9) rfl dX10_need_1 ?_
    obtain ⟨o1, go1, hf⟩ := bd_s hf
    refine ro_Vi (As := []) (rest := []) ⟨hx, hb, hml, hown, hts⟩ (c_X9_isTold l D K F hRo sRo o1 go1) (cwV 0 hts (gcV_X9_isTold (mB30 _ (List.mem_of_getElem? (i := 0) rfl))) rfl rfl rfl hdV_X9_isTold ⟨Nat.le_of_ble_eq_true rfl, Nat.le_of_ble_eq_true rfl⟩) hK hP hS (va_PL (cs := [wMn K hMn rMn0 (hRo 99) rMn3 rMn4 (hPl 99) rMn6 rMn7 rMn8 rMn9 rMn10 sMn, wPl K hPl hPc gPl3 sPl, wPc K hPc sPc, wRo K hRo sRo]) (cc := [wRo K hRo sRo]) hP (fl4 _ _ _ _) [3] rfl (fl1 _)) (va_recv hK hP (ci := 8) (q0 := (((1 + 5) + 9) + 0)) rfl (rwr (lnA (lnA ln_Mn ln_Pl) ln_Pc) o_Ro)) rfl hl.1 rfl (Nat.le_of_ble_eq_true rfl) dX10_need_4 ⟨Nat.zero_le _, Nat.zero_le _⟩ (fun H locs hP hS => ?_)
    refine lv_if_ne (tgt := 16) hx hb dX10_need_7 (by decide) (fun c2 => ?_) (fun c2 => ?_)
    · have hf := it_f hf c2
      refine lv_aload_n hx hb dX10_need_16 rfl (lv_at hl 0 rfl) ?_
      refine lv_aload_n hx hb dX10_need_17 rfl (lv_at hl 0 rfl) ?_
      refine va_get (D := D) (ci := 9) (v := .ref (hPl 99)) (C := RX10) (T := TX10) (N := 14) hx hb hts iX10 hown hK hP 0 (rwl (rwl (rwl o_Mn))) rfl 5 (by decide) (htl _ (mB2 _ (List.mem_of_getElem? (i := 3) rfl))) (fun _ h9 => h9) rfl dX10_need_18 ?_
      refine lv_aload_n hx hb dX10_need_21 rfl (lv_at hl 0 rfl) ?_
      refine va_get (D := D) (ci := 9) (v := .ref (hRo 99)) (C := RX10) (T := TX10) (N := 14) hx hb hts iX10 hown hK hP 0 (rwl (rwl (rwl o_Mn))) rfl 2 (by decide) (htl _ (mB1 _ (List.mem_of_getElem? (i := 18) rfl))) (fun _ h9 => h9) rfl dX10_need_22 ?_
      obtain ⟨o3, go3, hf⟩ := bd_s hf
      refine rk_Vi (wn := wMn K hMn rMn0 (hRo 99) rMn3 rMn4 (hPl 99) rMn6 rMn7 rMn8 rMn9 rMn10 sMn ++ wPl K hPl hPc gPl3 o3.2.1 ++ wPc K hPc o3.2.2 ++ wRo K hRo sRo) [wMn K hMn rMn0 (hRo 99) rMn3 rMn4 (hPl 99) rMn6 rMn7 rMn8 rMn9 rMn10 sMn, wPl K hPl hPc gPl3 sPl, wPc K hPc sPc, wRo K hRo sRo] [wPl K hPl hPc gPl3 sPl, wPc K hPc sPc, wRo K hRo sRo] [wPl K hPl hPc gPl3 o3.2.1, wPc K hPc o3.2.2, wRo K hRo sRo] [wMn K hMn rMn0 (hRo 99) rMn3 rMn4 (hPl 99) rMn6 rMn7 rMn8 rMn9 rMn10 sMn, wPl K hPl hPc gPl3 o3.2.1, wPc K hPc o3.2.2, wRo K hRo sRo] (As := [.ref (hRo 99)]) (rest := [.ref (hMn 99)]) ⟨hx, hb, hml, hown, hts⟩ (c_X6_leastBeginning l D K F hPl gPl3 hPc hRo H.size sPl sPc sRo o3 go3) (cwV 1 hts (gcV_X6_leastBeginning (mB38 _ (List.mem_of_getElem? (i := 13) rfl))) rfl rfl rfl hdV_X6_leastBeginning ⟨Nat.le_of_ble_eq_true rfl, Nat.le_of_ble_eq_true rfl⟩) hK hP hD hS hA [1, 2, 3] (fl4 _ _ _ _) rfl (by decide) (fl3 _ _ _) (fl3 _ _ _) rfl rfl (fl4 _ _ _ _) (va_recv hK hP (ci := 5) (q0 := (1 + 0)) rfl (rwl (rwl (rwr ln_Mn o_Pl)))) rfl hl.1 rfl (Nat.le_of_ble_eq_true rfl) dX10_need_25 ⟨Nat.zero_le _, Nat.zero_le _⟩ (fun H locs hP hD hS => ?_)
      have hP : va_P D vwCl (wMn K hMn rMn0 (hRo 99) rMn3 rMn4 (hPl 99) rMn6 rMn7 rMn8 rMn9 rMn10 sMn ++ wPl K hPl hPc gPl3 o3.2.1 ++ wPc K hPc o3.2.2 ++ wRo K hRo sRo) H := hP
      have hD : va_D A (wMn K hMn rMn0 (hRo 99) rMn3 rMn4 (hPl 99) rMn6 rMn7 rMn8 rMn9 rMn10 sMn ++ wPl K hPl hPc gPl3 o3.2.1 ++ wPc K hPc o3.2.2 ++ wRo K hRo sRo) := hD
      obtain ⟨o4, go4, hf⟩ := bd_s hf
      refine rk_Vi (wn := wMn K hMn rMn0 (hRo 99) rMn3 rMn4 (hPl 99) rMn6 rMn7 rMn8 rMn9 rMn10 o4.2 ++ wPl K hPl hPc gPl3 o3.2.1 ++ wPc K hPc o3.2.2 ++ wRo K hRo sRo) [wMn K hMn rMn0 (hRo 99) rMn3 rMn4 (hPl 99) rMn6 rMn7 rMn8 rMn9 rMn10 sMn, wPl K hPl hPc gPl3 o3.2.1, wPc K hPc o3.2.2, wRo K hRo sRo] [wMn K hMn rMn0 (hRo 99) rMn3 rMn4 (hPl 99) rMn6 rMn7 rMn8 rMn9 rMn10 sMn] [wMn K hMn rMn0 (hRo 99) rMn3 rMn4 (hPl 99) rMn6 rMn7 rMn8 rMn9 rMn10 o4.2] [wMn K hMn rMn0 (hRo 99) rMn3 rMn4 (hPl 99) rMn6 rMn7 rMn8 rMn9 rMn10 o4.2, wPl K hPl hPc gPl3 o3.2.1, wPc K hPc o3.2.2, wRo K hRo sRo] (As := [.int o3.1]) (rest := []) ⟨hx, hb, hml, hown, hts⟩ (c_X10_accept l D K F hMn rMn0 (hRo 99) rMn3 rMn4 (hPl 99) rMn6 rMn7 rMn8 rMn9 rMn10 H.size sMn o3.1 o4 go4) (cwV 1 hts (gcV_X10_accept (mB17 _ (List.mem_of_getElem? (i := 14) rfl))) rfl rfl rfl hdV_X10_accept ⟨Nat.le_of_ble_eq_true rfl, Nat.le_of_ble_eq_true rfl⟩) hK hP hD hS hA [0] (fl4 _ _ _ _) rfl (by decide) (fl1 _) (fl1 _) rfl rfl (fl4 _ _ _ _) (va_recv hK hP (ci := 9) (q0 := 0) rfl (rwl (rwl (rwl o_Mn)))) rfl hl.1 rfl (Nat.le_of_ble_eq_true rfl) dX10_need_28 ⟨Nat.zero_le _, Nat.zero_le _⟩ (fun H locs hP hD hS => ?_)
      have hP : va_P D vwCl (wMn K hMn rMn0 (hRo 99) rMn3 rMn4 (hPl 99) rMn6 rMn7 rMn8 rMn9 rMn10 o4.2 ++ wPl K hPl hPc gPl3 o3.2.1 ++ wPc K hPc o3.2.2 ++ wRo K hRo sRo) H := hP
      have hD : va_D A (wMn K hMn rMn0 (hRo 99) rMn3 rMn4 (hPl 99) rMn6 rMn7 rMn8 rMn9 rMn10 o4.2 ++ wPl K hPl hPc gPl3 o3.2.1 ++ wPc K hPc o3.2.2 ++ wRo K hRo sRo) := hD
      have e9 := Option.some.inj hf
      rw [hQ]
      exact W.iret (v := o4.1) hx hb hr (fun t ht hW => ⟨⟨o4.1, (o4.2, o3.2.1, o3.2.2), rfl, ⟨pr1 e9, pr2 e9⟩, ⟨by rw [ht]; exact hP, va_K.moved hW.alike hK, hD⟩⟩, hS.F ht⟩) hS.2.2 dX10_need_31
    · have hf := it_t hf c2
      refine lv_aload_n hx hb dX10_need_10 rfl (lv_at hl 0 rfl) ?_
      refine lv_iconst (v := (1 : Int32)) hx hb dX10_need_11 (by decide) ?_
      obtain ⟨o5, go5, hf⟩ := bd_s hf
      refine rk_Vi (wn := wMn K hMn rMn0 (hRo 99) rMn3 rMn4 (hPl 99) rMn6 rMn7 rMn8 rMn9 rMn10 o5.2 ++ wPl K hPl hPc gPl3 sPl ++ wPc K hPc sPc ++ wRo K hRo sRo) [wMn K hMn rMn0 (hRo 99) rMn3 rMn4 (hPl 99) rMn6 rMn7 rMn8 rMn9 rMn10 sMn, wPl K hPl hPc gPl3 sPl, wPc K hPc sPc, wRo K hRo sRo] [wMn K hMn rMn0 (hRo 99) rMn3 rMn4 (hPl 99) rMn6 rMn7 rMn8 rMn9 rMn10 sMn] [wMn K hMn rMn0 (hRo 99) rMn3 rMn4 (hPl 99) rMn6 rMn7 rMn8 rMn9 rMn10 o5.2] [wMn K hMn rMn0 (hRo 99) rMn3 rMn4 (hPl 99) rMn6 rMn7 rMn8 rMn9 rMn10 o5.2, wPl K hPl hPc gPl3 sPl, wPc K hPc sPc, wRo K hRo sRo] (As := [.int (1 : Int32)]) (rest := []) ⟨hx, hb, hml, hown, hts⟩ (c_X10_refuse l D K F hMn rMn0 (hRo 99) rMn3 rMn4 (hPl 99) rMn6 rMn7 rMn8 rMn9 rMn10 H.size sMn (1 : Int32) o5 go5) (cwV 1 hts (gcV_X10_refuse (mB7 _ (List.mem_of_getElem? (i := 18) rfl))) rfl rfl rfl hdV_X10_refuse ⟨Nat.le_of_ble_eq_true rfl, Nat.le_of_ble_eq_true rfl⟩) hK hP hD hS hA [0] (fl4 _ _ _ _) rfl (by decide) (fl1 _) (fl1 _) rfl rfl (fl4 _ _ _ _) (va_recv hK hP (ci := 9) (q0 := 0) rfl (rwl (rwl (rwl o_Mn)))) rfl hl.1 rfl (Nat.le_of_ble_eq_true rfl) dX10_need_12 ⟨Nat.zero_le _, Nat.zero_le _⟩ (fun H locs hP hD hS => ?_)
      have hP : va_P D vwCl (wMn K hMn rMn0 (hRo 99) rMn3 rMn4 (hPl 99) rMn6 rMn7 rMn8 rMn9 rMn10 o5.2 ++ wPl K hPl hPc gPl3 sPl ++ wPc K hPc sPc ++ wRo K hRo sRo) H := hP
      have hD : va_D A (wMn K hMn rMn0 (hRo 99) rMn3 rMn4 (hPl 99) rMn6 rMn7 rMn8 rMn9 rMn10 o5.2 ++ wPl K hPl hPc gPl3 sPl ++ wPc K hPc sPc ++ wRo K hRo sRo) := hD
      have e9 := Option.some.inj hf
      rw [hQ]
      exact W.iret (v := o5.1) hx hb hr (fun t ht hW => ⟨⟨o5.1, (o5.2, sPl, sPc), rfl, ⟨pr1 e9, pr2 e9⟩, ⟨by rw [ht]; exact hP, va_K.moved hW.alike hK, hD⟩⟩, hS.F ht⟩) hS.2.2 dX10_need_15
  rw [hHe] at hgo
  exact hgo

def wz_X10_isRule : List Cond := .code yX10_isRule cX10_isRule 1 (some .boolean) :: wsL_law
abbrev r_X10_isRule : Room := { frames := 0, cells := 0, slots := 0, locals := 0 }
set_option maxHeartbeats 4000000 in
set_option maxRecDepth 100000 in
theorem c_X10_isRule (l : Launch) (D : va_G) (K : Nat → ClassId) (F : Nat) (p0 : Int32) (res : Int32) (hf : f_X10_isRule F p0 = some res) : Met l yX10_isRule wz_X10_isRule r_X10_isRule (va_Pc [.int p0] (PR D K (([] : va_W)))) (va_Qi (fun r (_ : Unit) => r = res) BN nOne) 0 0 nOne := by
  refine Met.ofW (cc := cX10_isRule) (maxL := 1) (ret := (some .boolean)) (by decide) rfl ?_
  intro p e s m args below meth c s₁ B hml hv
  obtain ⟨hargs, hP, hK⟩ := hv
  have hx := B.exec
  have hb := B.bytes
  have hr := B.returns
  have hts := atoms_spec (ws := wz_X10_isRule) B.pre
  have htl : ∀ w ∈ wsL_law, w.before args s = true := fun w h => hts w (List.mem_cons_of_mem _ h)
  have hown : s.vm.findClass RX10 = some m.cls := findClass_of_methodNamed B.named
  have hlocks := B.notSynchronized
  have hS : va_S nOne s.heap s.heap [] := va_S.rf
  suffices hgo : ∀ Q : State → Prop, Q = MQ below (va_Qi (fun r (_ : Unit) => r = res) BN nOne) args s 0 0 nOne → W p l e (headSpec wz_X10_isRule r_X10_isRule).room s m args below meth c s.heap [] 0 0 Q (entryFrame m args 1) from hgo _ rfl
  intro Q hQ
  have hen : entryFrame m args 1 = entryFrame m (([.int p0] : List Value).toArray) 1 := by rw [hargs]
  have hl := lv_entry ([.int p0]) (n := 1) (Nat.le_of_ble_eq_true rfl)
  rw [hen, lg_entry_eq]
  generalize (lg_sl ([.int p0]) ++ List.replicate (1 - (lg_sl ([.int p0])).length) Slot.unset).toArray = ls at hl ⊢
  have hl : lv_has ls 1 [(0, .int p0)] := hl
  unfold f_X10_isRule at hf
  obtain ⟨H, hHe⟩ : ∃ z, z = s.heap := ⟨_, rfl⟩
  obtain ⟨locs, hLe⟩ : ∃ z : List Loc, z = [] := ⟨_, rfl⟩
  rw [← hLe]
  have hS : va_S nOne s.heap H locs := by rw [hHe, hLe]; exact hS
  have hP : va_P D vwCl (([] : va_W)) H := by rw [hHe]; exact hP
  have hgo : W p l e (headSpec wz_X10_isRule r_X10_isRule).room s m args below meth c H locs 0 0 Q (F0 m 0 ls []) := by
    refine lv_iload_n hx hb dX10_isRule_0 rfl (lv_at hl 0 rfl) ?_
    refine lv_if_lt (tgt := 13) hx hb dX10_isRule_1 (by decide) (fun c1 => ?_) (fun c1 => ?_)
    · have hf := it_t hf c1
      refine lv_iconst (v := (0 : Int32)) hx hb dX10_isRule_13 (by decide) ?_
      have e9 := Option.some.inj hf
      rw [hQ]
      exact W.zret (v := (0 : Int32)) hx hb hr rfl (fun t ht hW => ⟨⟨(0 : Int32), (), rfl, e9, trivial⟩, hS.F ht⟩) hS.2.2 dX10_isRule_14
    · have hf := it_f hf c1
      refine lv_iload_n hx hb dX10_isRule_4 rfl (lv_at hl 0 rfl) ?_
      refine lv_iconst (v := (4 : Int32)) hx hb dX10_isRule_5 (by decide) ?_
      refine lv_icmp_ge (tgt := 13) hx hb dX10_isRule_6 (by decide) (fun c2 => ?_) (fun c2 => ?_)
      · have hf := it_t hf c2
        refine lv_iconst (v := (0 : Int32)) hx hb dX10_isRule_13 (by decide) ?_
        have e9 := Option.some.inj hf
        rw [hQ]
        exact W.zret (v := (0 : Int32)) hx hb hr rfl (fun t ht hW => ⟨⟨(0 : Int32), (), rfl, e9, trivial⟩, hS.F ht⟩) hS.2.2 dX10_isRule_14
      · have hf := it_f hf c2
        refine lv_iconst (v := (1 : Int32)) hx hb dX10_isRule_9 (by decide) ?_
        refine lv_goto (tgt := 14) hx hb dX10_isRule_10 (by decide) ?_
        have e9 := Option.some.inj hf
        rw [hQ]
        exact W.zret (v := (1 : Int32)) hx hb hr rfl (fun t ht hW => ⟨⟨(1 : Int32), (), rfl, e9, trivial⟩, hS.F ht⟩) hS.2.2 dX10_isRule_14
  rw [hHe] at hgo
  exact hgo

def wz_X10_whyNoBuying : List Cond := .code yX10_whyNoBuying cX10_whyNoBuying 4 (some .int) :: wsL_law
abbrev r_X10_whyNoBuying : Room := { frames := 1, cells := 0, slots := 0, locals := 22 }
set_option maxHeartbeats 4000000 in
set_option maxRecDepth 100000 in
theorem c_X10_whyNoBuying (l : Launch) (D : va_G) (K : Nat → ClassId) (F : Nat) (hMn : Nat → Nat) (rMn0 : Nat) (rMn3 : Nat) (rMn4 : Nat) (rMn5 : Nat) (rMn6 : Nat) (rMn7 : Nat) (rMn8 : Nat) (rMn9 : Nat) (rMn10 : Nat) (hRo : Nat → Nat) (sMn : MS) (sRo : MS) (p1 : Int32) (p2 : Int32) (p3 : Int32) (res : Int32) (hf : f_X10_whyNoBuying F sMn sRo p1 p2 p3 = some res) : Met l yX10_whyNoBuying wz_X10_whyNoBuying r_X10_whyNoBuying (va_Pc [.ref (hMn 99), .int p1, .int p2, .int p3] (PR D K (wMn K hMn rMn0 (hRo 99) rMn3 rMn4 rMn5 rMn6 rMn7 rMn8 rMn9 rMn10 sMn ++ wRo K hRo sRo))) (va_Qi (fun r (_ : Unit) => r = res) BN nOne) 0 0 nOne := by
  refine Met.ofW (cc := cX10_whyNoBuying) (maxL := 4) (ret := (some .int)) (by decide) rfl ?_
  intro p e s m args below meth c s₁ B hml hv
  obtain ⟨hargs, hP, hK⟩ := hv
  have hx := B.exec
  have hb := B.bytes
  have hr := B.returns
  have hts := atoms_spec (ws := wz_X10_whyNoBuying) B.pre
  have htl : ∀ w ∈ wsL_law, w.before args s = true := fun w h => hts w (List.mem_cons_of_mem _ h)
  have hown : s.vm.findClass RX10 = some m.cls := findClass_of_methodNamed B.named
  have hlocks := B.notSynchronized
  have hS : va_S nOne s.heap s.heap [] := va_S.rf
  have iX10 : ∀ w ∈ wsX100, w ∈ wz_X10_whyNoBuying := fun w h => List.mem_cons_of_mem _ (inlX10 w h)
  suffices hgo : ∀ Q : State → Prop, Q = MQ below (va_Qi (fun r (_ : Unit) => r = res) BN nOne) args s 0 0 nOne → W p l e (headSpec wz_X10_whyNoBuying r_X10_whyNoBuying).room s m args below meth c s.heap [] 0 0 Q (entryFrame m args 4) from hgo _ rfl
  intro Q hQ
  have hen : entryFrame m args 4 = entryFrame m (([.ref (hMn 99), .int p1, .int p2, .int p3] : List Value).toArray) 4 := by rw [hargs]
  have hl := lv_entry ([.ref (hMn 99), .int p1, .int p2, .int p3]) (n := 4) (Nat.le_of_ble_eq_true rfl)
  rw [hen, lg_entry_eq]
  generalize (lg_sl ([.ref (hMn 99), .int p1, .int p2, .int p3]) ++ List.replicate (4 - (lg_sl ([.ref (hMn 99), .int p1, .int p2, .int p3])).length) Slot.unset).toArray = ls at hl ⊢
  have hl : lv_has ls 4 [(0, .ref (hMn 99)), (1, .int p1), (2, .int p2), (3, .int p3)] := hl
  unfold f_X10_whyNoBuying at hf
  obtain ⟨H, hHe⟩ : ∃ z, z = s.heap := ⟨_, rfl⟩
  obtain ⟨locs, hLe⟩ : ∃ z : List Loc, z = [] := ⟨_, rfl⟩
  rw [← hLe]
  have hS : va_S nOne s.heap H locs := by rw [hHe, hLe]; exact hS
  have hP : va_P D vwCl (wMn K hMn rMn0 (hRo 99) rMn3 rMn4 rMn5 rMn6 rMn7 rMn8 rMn9 rMn10 sMn ++ wRo K hRo sRo) H := by rw [hHe]; exact hP
  have hgo : W p l e (headSpec wz_X10_whyNoBuying r_X10_whyNoBuying).room s m args below meth c H locs 0 0 Q (F0 m 0 ls []) := by
    refine lv_aload_n hx hb dX10_whyNoBuying_0 rfl (lv_at hl 0 rfl) ?_
    refine va_get (D := D) (ci := 9) (v := .ref (hRo 99)) (C := RX10) (T := TX10) (N := 14) hx hb hts iX10 hown hK hP 0 (rwl o_Mn) rfl 2 (by decide) (htl _ (mB1 _ (List.mem_of_getElem? (i := 18) rfl))) (fun _ h9 => h9) rfl dX10_whyNoBuying_1 ?_
    refine lv_iload_n hx hb dX10_whyNoBuying_4 rfl (lv_at hl 1 rfl) ?_
    obtain ⟨o1, go1, hf⟩ := bd_s hf
    refine ro_Vi (As := [.int p1]) (rest := []) ⟨hx, hb, hml, hown, hts⟩ (c_X9_isLeft l D K F hRo sRo p1 o1 go1) (cwV 1 hts (gcV_X9_isLeft (mB28 _ (List.mem_of_getElem? (i := 20) rfl))) rfl rfl rfl hdV_X9_isLeft ⟨Nat.le_of_ble_eq_true rfl, Nat.le_of_ble_eq_true rfl⟩) hK hP hS (va_PL (cs := [wMn K hMn rMn0 (hRo 99) rMn3 rMn4 rMn5 rMn6 rMn7 rMn8 rMn9 rMn10 sMn, wRo K hRo sRo]) (cc := [wRo K hRo sRo]) hP (fl2 _ _) [1] rfl (fl1 _)) (va_recv hK hP (ci := 8) (q0 := (1 + 0)) rfl (rwr ln_Mn o_Ro)) rfl hl.1 rfl (Nat.le_of_ble_eq_true rfl) dX10_whyNoBuying_5 ⟨Nat.zero_le _, Nat.zero_le _⟩ (fun H locs hP hS => ?_)
    refine lv_if_ne (tgt := 13) hx hb dX10_whyNoBuying_8 (by decide) (fun c2 => ?_) (fun c2 => ?_)
    · have hf := it_f hf c2
      refine lv_aload_n hx hb dX10_whyNoBuying_13 rfl (lv_at hl 0 rfl) ?_
      refine va_get (D := D) (ci := 9) (v := .ref (hRo 99)) (C := RX10) (T := TX10) (N := 14) hx hb hts iX10 hown hK hP 0 (rwl o_Mn) rfl 2 (by decide) (htl _ (mB1 _ (List.mem_of_getElem? (i := 18) rfl))) (fun _ h9 => h9) rfl dX10_whyNoBuying_14 ?_
      refine lv_iload_n hx hb dX10_whyNoBuying_17 rfl (lv_at hl 2 rfl) ?_
      obtain ⟨o3, go3, hf⟩ := bd_s hf
      refine ro_Vi (As := [.int p2]) (rest := []) ⟨hx, hb, hml, hown, hts⟩ (c_X9_isLevel l D K F hRo sRo p2 o3 go3) (cwV 1 hts (gcV_X9_isLevel (mB27 _ (List.mem_of_getElem? (i := 23) rfl))) rfl rfl rfl hdV_X9_isLevel ⟨Nat.le_of_ble_eq_true rfl, Nat.le_of_ble_eq_true rfl⟩) hK hP hS (va_PL (cs := [wMn K hMn rMn0 (hRo 99) rMn3 rMn4 rMn5 rMn6 rMn7 rMn8 rMn9 rMn10 sMn, wRo K hRo sRo]) (cc := [wRo K hRo sRo]) hP (fl2 _ _) [1] rfl (fl1 _)) (va_recv hK hP (ci := 8) (q0 := (1 + 0)) rfl (rwr ln_Mn o_Ro)) rfl hl.1 rfl (Nat.le_of_ble_eq_true rfl) dX10_whyNoBuying_18 ⟨Nat.zero_le _, Nat.zero_le _⟩ (fun H locs hP hS => ?_)
      refine lv_if_ne (tgt := 26) hx hb dX10_whyNoBuying_21 (by decide) (fun c4 => ?_) (fun c4 => ?_)
      · have hf := it_f hf c4
        refine lv_aload_n hx hb dX10_whyNoBuying_26 rfl (lv_at hl 0 rfl) ?_
        refine va_get (D := D) (ci := 9) (v := .ref (hRo 99)) (C := RX10) (T := TX10) (N := 14) hx hb hts iX10 hown hK hP 0 (rwl o_Mn) rfl 2 (by decide) (htl _ (mB1 _ (List.mem_of_getElem? (i := 18) rfl))) (fun _ h9 => h9) rfl dX10_whyNoBuying_27 ?_
        refine lv_iload_n hx hb dX10_whyNoBuying_30 rfl (lv_at hl 1 rfl) ?_
        refine lv_iload_n hx hb dX10_whyNoBuying_31 rfl (lv_at hl 3 rfl) ?_
        obtain ⟨o5, go5, hf⟩ := bd_s hf
        refine ro_Vi (As := [.int p1, .int p3]) (rest := []) ⟨hx, hb, hml, hown, hts⟩ (c_X9_priceAt l D K F hRo sRo p1 p3 o5 go5) (cwV 2 hts (gcV_X9_priceAt (mB39 _ (List.mem_of_getElem? (i := 8) rfl))) rfl rfl rfl hdV_X9_priceAt ⟨Nat.le_of_ble_eq_true rfl, Nat.le_of_ble_eq_true rfl⟩) hK hP hS (va_PL (cs := [wMn K hMn rMn0 (hRo 99) rMn3 rMn4 rMn5 rMn6 rMn7 rMn8 rMn9 rMn10 sMn, wRo K hRo sRo]) (cc := [wRo K hRo sRo]) hP (fl2 _ _) [1] rfl (fl1 _)) (va_recv hK hP (ci := 8) (q0 := (1 + 0)) rfl (rwr ln_Mn o_Ro)) rfl hl.1 rfl (Nat.le_of_ble_eq_true rfl) dX10_whyNoBuying_32 ⟨Nat.zero_le _, Nat.zero_le _⟩ (fun H locs hP hS => ?_)
        refine lv_if_ne (tgt := 43) hx hb dX10_whyNoBuying_35 (by decide) (fun c6 => ?_) (fun c6 => ?_)
        · have hf := it_f hf c6
          refine lv_iconst (v := (0 : Int32)) hx hb dX10_whyNoBuying_43 (by decide) ?_
          have e9 := Option.some.inj hf
          rw [hQ]
          exact W.iret (v := (0 : Int32)) hx hb hr (fun t ht hW => ⟨⟨(0 : Int32), (), rfl, e9, trivial⟩, hS.F ht⟩) hS.2.2 dX10_whyNoBuying_44
        · have hf := it_t hf c6
          refine lv_bipush (v := (6 : Int32)) hx hb dX10_whyNoBuying_38 (by decide) ?_
          refine lv_goto (tgt := 44) hx hb dX10_whyNoBuying_40 (by decide) ?_
          have e9 := Option.some.inj hf
          rw [hQ]
          exact W.iret (v := (6 : Int32)) hx hb hr (fun t ht hW => ⟨⟨(6 : Int32), (), rfl, e9, trivial⟩, hS.F ht⟩) hS.2.2 dX10_whyNoBuying_44
      · have hf := it_t hf c4
        refine lv_iconst (v := (2 : Int32)) hx hb dX10_whyNoBuying_24 (by decide) ?_
        have e9 := Option.some.inj hf
        rw [hQ]
        exact W.iret (v := (2 : Int32)) hx hb hr (fun t ht hW => ⟨⟨(2 : Int32), (), rfl, e9, trivial⟩, hS.F ht⟩) hS.2.2 dX10_whyNoBuying_25
    · have hf := it_t hf c2
      refine lv_iconst (v := (1 : Int32)) hx hb dX10_whyNoBuying_11 (by decide) ?_
      have e9 := Option.some.inj hf
      rw [hQ]
      exact W.iret (v := (1 : Int32)) hx hb hr (fun t ht hW => ⟨⟨(1 : Int32), (), rfl, e9, trivial⟩, hS.F ht⟩) hS.2.2 dX10_whyNoBuying_12
  rw [hHe] at hgo
  exact hgo

theorem gcS_X10_isRule {T0 : Cond} {own : String} {i : Nat} (h : Cond.methodLink own i yX10_isRule ∈ wsL_law) : GoodIn (T0 :: wsL_law) (va_wsS own i yX10_isRule wz_X10_isRule) := gS h (mB39 _ (List.mem_of_getElem? (i := 2) rfl)) (mB1 _ (List.mem_of_getElem? (i := 2) rfl)) (mB39 _ (List.mem_of_getElem? (i := 3) rfl))
theorem hdS_X10_isRule : yX10_isRule.cls ≠ "java/lang/invoke/MethodHandle" ∧ yX10_isRule.cls ≠ "java/lang/invoke/VarHandle" ∧ (parseMethodDescriptor yX10_isRule.desc).map (fun d => d.parameters.length) = some 1 := by decide +kernel
theorem gcV_X10_whyNoBuying {T0 : Cond} {own : String} {i : Nat} (h : Cond.methodLink own i yX10_whyNoBuying ∈ wsL_law) : GoodIn (T0 :: wsL_law) (wsV own i RX10 yX10_whyNoBuying wz_X10_whyNoBuying) := gV h (mB39 _ (List.mem_of_getElem? (i := 5) rfl)) (mB39 _ (List.mem_of_getElem? (i := 6) rfl)) (mB1 _ (List.mem_of_getElem? (i := 2) rfl)) (mB39 _ (List.mem_of_getElem? (i := 7) rfl))
theorem hdV_X10_whyNoBuying : yX10_whyNoBuying.cls = RX10 ∧ yX10_whyNoBuying.cls ≠ "java/lang/invoke/MethodHandle" ∧ yX10_whyNoBuying.cls ≠ "java/lang/invoke/VarHandle" ∧ (parseMethodDescriptor yX10_whyNoBuying.desc).map (fun d => d.parameters.length) = some 3 := by decide +kernel
def wz_X10_buys : List Cond := .code yX10_buys cX10_buys 6 (some .int) :: wsL_law
abbrev r_X10_buys : Room := { frames := 3, cells := 0, slots := 0, locals := 70 }
set_option maxHeartbeats 4000000 in
set_option maxRecDepth 100000 in
theorem c_X10_buys (l : Launch) (D : va_G) (K : Nat → ClassId) (F : Nat) (hMn : Nat → Nat) (rMn0 : Nat) (rMn3 : Nat) (rMn4 : Nat) (rMn5 : Nat) (rMn7 : Nat) (rMn8 : Nat) (rMn9 : Nat) (rMn10 : Nat) (hDr : Nat → Nat) (rDr1 : Nat) (rDr3 : Nat) (rDr4 : Nat) (hRo : Nat → Nat) (sz : Nat) (sMn : MS) (sDr : MS) (sRo : MS) (p1 : Int32) (p2 : Int32) (p3 : Int32) (p4 : Int32) (res : Int32 × MS) (hf : f_X10_buys F sDr sRo p1 p2 p3 p4 sMn = some res) : Met l yX10_buys wz_X10_buys r_X10_buys (va_Pc [.ref (hMn 99), .int p1, .int p2, .int p3, .int p4] (PW D K (wMn K hMn rMn0 (hRo 99) rMn3 rMn4 rMn5 (hDr 99) rMn7 rMn8 rMn9 rMn10 sMn ++ wDr K hDr rDr1 rDr3 rDr4 sDr ++ wRo K hRo sRo) sz)) (va_Qi (fun r u => r = res.1 ∧ u = res.2) (fun u t => BW D K (va_A (wMn K hMn rMn0 (hRo 99) rMn3 rMn4 rMn5 (hDr 99) rMn7 rMn8 rMn9 rMn10 sMn ++ wDr K hDr rDr1 rDr3 rDr4 sDr ++ wRo K hRo sRo) sz) (wMn K hMn rMn0 (hRo 99) rMn3 rMn4 rMn5 (hDr 99) rMn7 rMn8 rMn9 rMn10 u ++ wDr K hDr rDr1 rDr3 rDr4 sDr ++ wRo K hRo sRo) t) (va_A (wMn K hMn rMn0 (hRo 99) rMn3 rMn4 rMn5 (hDr 99) rMn7 rMn8 rMn9 rMn10 sMn ++ wDr K hDr rDr1 rDr3 rDr4 sDr ++ wRo K hRo sRo) sz)) 0 0 (va_A (wMn K hMn rMn0 (hRo 99) rMn3 rMn4 rMn5 (hDr 99) rMn7 rMn8 rMn9 rMn10 sMn ++ wDr K hDr rDr1 rDr3 rDr4 sDr ++ wRo K hRo sRo) sz) := by
  refine Met.ofW (cc := cX10_buys) (maxL := 6) (ret := (some .int)) (by decide) rfl ?_
  intro p e s m args below meth c s₁ B hml hv
  obtain ⟨hargs, hsz, hP, hK, hD0⟩ := hv
  have hx := B.exec
  have hb := B.bytes
  have hr := B.returns
  have hts := atoms_spec (ws := wz_X10_buys) B.pre
  have htl : ∀ w ∈ wsL_law, w.before args s = true := fun w h => hts w (List.mem_cons_of_mem _ h)
  have hown : s.vm.findClass RX10 = some m.cls := findClass_of_methodNamed B.named
  have hlocks := B.notSynchronized
  subst hsz
  have hD := hD0.self (sz := s.heap.size)
  generalize hAe : va_A (wMn K hMn rMn0 (hRo 99) rMn3 rMn4 rMn5 (hDr 99) rMn7 rMn8 rMn9 rMn10 sMn ++ wDr K hDr rDr1 rDr3 rDr4 sDr ++ wRo K hRo sRo) s.heap.size = A at hD ⊢
  have hA : ∀ q : Nat, s.heap.size ≤ q → A q := fun q h => by rw [← hAe]; exact Or.inr h
  have hS : va_S A s.heap s.heap [] := va_S.rf
  have iX10 : ∀ w ∈ wsX100, w ∈ wz_X10_buys := fun w h => List.mem_cons_of_mem _ (inlX10 w h)
  suffices hgo : ∀ Q : State → Prop, Q = MQ below (va_Qi (fun r u => r = res.1 ∧ u = res.2) (fun u t => BW D K A (wMn K hMn rMn0 (hRo 99) rMn3 rMn4 rMn5 (hDr 99) rMn7 rMn8 rMn9 rMn10 u ++ wDr K hDr rDr1 rDr3 rDr4 sDr ++ wRo K hRo sRo) t) A) args s 0 0 A → W p l e (headSpec wz_X10_buys r_X10_buys).room s m args below meth c s.heap [] 0 0 Q (entryFrame m args 6) from hgo _ rfl
  intro Q hQ
  have w19 : ∀ (y0 : Int32), ∀ (sMn : MS), ∀ (H : Heap) (locs : List Loc) (ls : Array Slot), f_X10_buys_19 F sDr sRo p1 p2 p3 p4 y0 sMn = some res → va_P D vwCl (wMn K hMn rMn0 (hRo 99) rMn3 rMn4 rMn5 (hDr 99) rMn7 rMn8 rMn9 rMn10 sMn ++ wDr K hDr rDr1 rDr3 rDr4 sDr ++ wRo K hRo sRo) H → va_D A (wMn K hMn rMn0 (hRo 99) rMn3 rMn4 rMn5 (hDr 99) rMn7 rMn8 rMn9 rMn10 sMn ++ wDr K hDr rDr1 rDr3 rDr4 sDr ++ wRo K hRo sRo) → va_S A s.heap H locs → lv_has ls 6 [(0, .ref (hMn 99)), (1, .int p1), (2, .int p2), (3, .int p3), (4, .int p4)] → W p l e (headSpec wz_X10_buys r_X10_buys).room s m args below meth c H locs 0 0 Q (F0 m 19 ls [.int y0]) := by
    intro y0 sMn H locs ls hf hP hD hS hl
    unfold f_X10_buys_19 at hf
    refine lv_istore (lv' := [(5, .int y0), (0, .ref (hMn 99)), (1, .int p1), (2, .int p2), (3, .int p3), (4, .int p4)]) hx hb dX10_buys_19 hl (by decide) rfl (fun ls hl => ?_)
    refine lv_iload hx hb dX10_buys_21 (lv_at hl 0 rfl) ?_
    refine lv_if_eq (tgt := 33) hx hb dX10_buys_23 (by decide) (fun c4 => ?_) (fun c4 => ?_)
    · have hf := it_t hf c4
      refine lv_aload_n hx hb dX10_buys_33 rfl (lv_at hl 1 rfl) ?_
      refine lv_aload_n hx hb dX10_buys_34 rfl (lv_at hl 1 rfl) ?_
      refine va_get (D := D) (ci := 9) (v := .ref (hDr 99)) (C := RX10) (T := TX10) (N := 14) hx hb hts iX10 hown hK hP 0 (rwl (rwl o_Mn)) rfl 6 (by decide) (htl _ (mB2 _ (List.mem_of_getElem? (i := 7) rfl))) (fun _ h9 => h9) rfl dX10_buys_35 ?_
      refine lv_aload_n hx hb dX10_buys_38 rfl (lv_at hl 1 rfl) ?_
      refine va_get (D := D) (ci := 9) (v := .ref (hRo 99)) (C := RX10) (T := TX10) (N := 14) hx hb hts iX10 hown hK hP 0 (rwl (rwl o_Mn)) rfl 2 (by decide) (htl _ (mB1 _ (List.mem_of_getElem? (i := 18) rfl))) (fun _ h9 => h9) rfl dX10_buys_39 ?_
      refine lv_iload_n hx hb dX10_buys_42 rfl (lv_at hl 2 rfl) ?_
      refine lv_iload_n hx hb dX10_buys_43 rfl (lv_at hl 3 rfl) ?_
      refine lv_iload_n hx hb dX10_buys_44 rfl (lv_at hl 4 rfl) ?_
      refine lv_aload_n hx hb dX10_buys_45 rfl (lv_at hl 1 rfl) ?_
      refine va_get (D := D) (ci := 9) (v := .ref (hRo 99)) (C := RX10) (T := TX10) (N := 14) hx hb hts iX10 hown hK hP 0 (rwl (rwl o_Mn)) rfl 2 (by decide) (htl _ (mB1 _ (List.mem_of_getElem? (i := 18) rfl))) (fun _ h9 => h9) rfl dX10_buys_46 ?_
      refine lv_iload_n hx hb dX10_buys_49 rfl (lv_at hl 3 rfl) ?_
      refine lv_iload hx hb dX10_buys_50 (lv_at hl 5 rfl) ?_
      obtain ⟨o5, go5, hf⟩ := bd_s hf
      refine ro_Vi (As := [.int p2, .int p4]) (rest := [.int p3, .int p2, .int p1, .ref (hRo 99), .ref (hDr 99), .ref (hMn 99)]) ⟨hx, hb, hml, hown, hts⟩ (c_X9_priceAt l D K F hRo sRo p2 p4 o5 go5) (cwV 2 hts (gcV_X9_priceAt (mB39 _ (List.mem_of_getElem? (i := 8) rfl))) rfl rfl rfl hdV_X9_priceAt ⟨Nat.le_of_ble_eq_true rfl, Nat.le_of_ble_eq_true rfl⟩) hK hP hS (va_PL (cs := [wMn K hMn rMn0 (hRo 99) rMn3 rMn4 rMn5 (hDr 99) rMn7 rMn8 rMn9 rMn10 sMn, wDr K hDr rDr1 rDr3 rDr4 sDr, wRo K hRo sRo]) (cc := [wRo K hRo sRo]) hP (fl3 _ _ _) [2] rfl (fl1 _)) (va_recv hK hP (ci := 8) (q0 := ((1 + 2) + 0)) rfl (rwr (lnA ln_Mn ln_Dr) o_Ro)) rfl hl.1 rfl (Nat.le_of_ble_eq_true rfl) dX10_buys_52 ⟨Nat.zero_le _, Nat.zero_le _⟩ (fun H locs hP hS => ?_)
      obtain ⟨o6, go6, hf⟩ := bd_s hf
      refine ro_Vi (As := [.ref (hRo 99), .int p1, .int p2, .int p3, .int o5]) (rest := [.ref (hMn 99)]) ⟨hx, hb, hml, hown, hts⟩ (c_X1_pintsByRule l D K F hDr rDr1 rDr3 rDr4 hRo sDr sRo p1 p2 p3 o5 o6 go6) (cwV 5 hts (gcV_X1_pintsByRule (mB39 _ (List.mem_of_getElem? (i := 9) rfl))) rfl rfl rfl hdV_X1_pintsByRule ⟨Nat.le_of_ble_eq_true rfl, Nat.le_of_ble_eq_true rfl⟩) hK hP hS (va_PL (cs := [wMn K hMn rMn0 (hRo 99) rMn3 rMn4 rMn5 (hDr 99) rMn7 rMn8 rMn9 rMn10 sMn, wDr K hDr rDr1 rDr3 rDr4 sDr, wRo K hRo sRo]) (cc := [wDr K hDr rDr1 rDr3 rDr4 sDr, wRo K hRo sRo]) hP (fl3 _ _ _) [1, 2] rfl (fl2 _ _)) (va_recv hK hP (ci := 1) (q0 := (1 + 0)) rfl (rwl (rwr ln_Mn o_Dr))) rfl hl.1 rfl (Nat.le_of_ble_eq_true rfl) dX10_buys_55 ⟨Nat.zero_le _, Nat.zero_le _⟩ (fun H locs hP hS => ?_)
      obtain ⟨o7, go7, hf⟩ := bd_s hf
      refine rk_Vi (wn := wMn K hMn rMn0 (hRo 99) rMn3 rMn4 rMn5 (hDr 99) rMn7 rMn8 rMn9 rMn10 o7.2 ++ wDr K hDr rDr1 rDr3 rDr4 sDr ++ wRo K hRo sRo) [wMn K hMn rMn0 (hRo 99) rMn3 rMn4 rMn5 (hDr 99) rMn7 rMn8 rMn9 rMn10 sMn, wDr K hDr rDr1 rDr3 rDr4 sDr, wRo K hRo sRo] [wMn K hMn rMn0 (hRo 99) rMn3 rMn4 rMn5 (hDr 99) rMn7 rMn8 rMn9 rMn10 sMn] [wMn K hMn rMn0 (hRo 99) rMn3 rMn4 rMn5 (hDr 99) rMn7 rMn8 rMn9 rMn10 o7.2] [wMn K hMn rMn0 (hRo 99) rMn3 rMn4 rMn5 (hDr 99) rMn7 rMn8 rMn9 rMn10 o7.2, wDr K hDr rDr1 rDr3 rDr4 sDr, wRo K hRo sRo] (As := [.int o6]) (rest := []) ⟨hx, hb, hml, hown, hts⟩ (c_X10_accept l D K F hMn rMn0 (hRo 99) rMn3 rMn4 rMn5 (hDr 99) rMn7 rMn8 rMn9 rMn10 H.size sMn o6 o7 go7) (cwV 1 hts (gcV_X10_accept (mB17 _ (List.mem_of_getElem? (i := 14) rfl))) rfl rfl rfl hdV_X10_accept ⟨Nat.le_of_ble_eq_true rfl, Nat.le_of_ble_eq_true rfl⟩) hK hP hD hS hA [0] (fl3 _ _ _) rfl (by decide) (fl1 _) (fl1 _) rfl rfl (fl3 _ _ _) (va_recv hK hP (ci := 9) (q0 := 0) rfl (rwl (rwl o_Mn))) rfl hl.1 rfl (Nat.le_of_ble_eq_true rfl) dX10_buys_58 ⟨Nat.zero_le _, Nat.zero_le _⟩ (fun H locs hP hD hS => ?_)
      have hP : va_P D vwCl (wMn K hMn rMn0 (hRo 99) rMn3 rMn4 rMn5 (hDr 99) rMn7 rMn8 rMn9 rMn10 o7.2 ++ wDr K hDr rDr1 rDr3 rDr4 sDr ++ wRo K hRo sRo) H := hP
      have hD : va_D A (wMn K hMn rMn0 (hRo 99) rMn3 rMn4 rMn5 (hDr 99) rMn7 rMn8 rMn9 rMn10 o7.2 ++ wDr K hDr rDr1 rDr3 rDr4 sDr ++ wRo K hRo sRo) := hD
      have e9 := Option.some.inj hf
      rw [hQ]
      exact W.iret (v := o7.1) hx hb hr (fun t ht hW => ⟨⟨o7.1, o7.2, rfl, ⟨pr1 e9, pr2 e9⟩, ⟨by rw [ht]; exact hP, va_K.moved hW.alike hK, hD⟩⟩, hS.F ht⟩) hS.2.2 dX10_buys_61
    · have hf := it_f hf c4
      refine lv_aload_n hx hb dX10_buys_26 rfl (lv_at hl 1 rfl) ?_
      refine lv_iload hx hb dX10_buys_27 (lv_at hl 0 rfl) ?_
      obtain ⟨o8, go8, hf⟩ := bd_s hf
      refine rk_Vi (wn := wMn K hMn rMn0 (hRo 99) rMn3 rMn4 rMn5 (hDr 99) rMn7 rMn8 rMn9 rMn10 o8.2 ++ wDr K hDr rDr1 rDr3 rDr4 sDr ++ wRo K hRo sRo) [wMn K hMn rMn0 (hRo 99) rMn3 rMn4 rMn5 (hDr 99) rMn7 rMn8 rMn9 rMn10 sMn, wDr K hDr rDr1 rDr3 rDr4 sDr, wRo K hRo sRo] [wMn K hMn rMn0 (hRo 99) rMn3 rMn4 rMn5 (hDr 99) rMn7 rMn8 rMn9 rMn10 sMn] [wMn K hMn rMn0 (hRo 99) rMn3 rMn4 rMn5 (hDr 99) rMn7 rMn8 rMn9 rMn10 o8.2] [wMn K hMn rMn0 (hRo 99) rMn3 rMn4 rMn5 (hDr 99) rMn7 rMn8 rMn9 rMn10 o8.2, wDr K hDr rDr1 rDr3 rDr4 sDr, wRo K hRo sRo] (As := [.int y0]) (rest := []) ⟨hx, hb, hml, hown, hts⟩ (c_X10_refuse l D K F hMn rMn0 (hRo 99) rMn3 rMn4 rMn5 (hDr 99) rMn7 rMn8 rMn9 rMn10 H.size sMn y0 o8 go8) (cwV 1 hts (gcV_X10_refuse (mB7 _ (List.mem_of_getElem? (i := 18) rfl))) rfl rfl rfl hdV_X10_refuse ⟨Nat.le_of_ble_eq_true rfl, Nat.le_of_ble_eq_true rfl⟩) hK hP hD hS hA [0] (fl3 _ _ _) rfl (by decide) (fl1 _) (fl1 _) rfl rfl (fl3 _ _ _) (va_recv hK hP (ci := 9) (q0 := 0) rfl (rwl (rwl o_Mn))) rfl hl.1 rfl (Nat.le_of_ble_eq_true rfl) dX10_buys_29 ⟨Nat.zero_le _, Nat.zero_le _⟩ (fun H locs hP hD hS => ?_)
      have hP : va_P D vwCl (wMn K hMn rMn0 (hRo 99) rMn3 rMn4 rMn5 (hDr 99) rMn7 rMn8 rMn9 rMn10 o8.2 ++ wDr K hDr rDr1 rDr3 rDr4 sDr ++ wRo K hRo sRo) H := hP
      have hD : va_D A (wMn K hMn rMn0 (hRo 99) rMn3 rMn4 rMn5 (hDr 99) rMn7 rMn8 rMn9 rMn10 o8.2 ++ wDr K hDr rDr1 rDr3 rDr4 sDr ++ wRo K hRo sRo) := hD
      have e9 := Option.some.inj hf
      rw [hQ]
      exact W.iret (v := o8.1) hx hb hr (fun t ht hW => ⟨⟨o8.1, o8.2, rfl, ⟨pr1 e9, pr2 e9⟩, ⟨by rw [ht]; exact hP, va_K.moved hW.alike hK, hD⟩⟩, hS.F ht⟩) hS.2.2 dX10_buys_32
  have hen : entryFrame m args 6 = entryFrame m (([.ref (hMn 99), .int p1, .int p2, .int p3, .int p4] : List Value).toArray) 6 := by rw [hargs]
  have hl := lv_entry ([.ref (hMn 99), .int p1, .int p2, .int p3, .int p4]) (n := 6) (Nat.le_of_ble_eq_true rfl)
  rw [hen, lg_entry_eq]
  generalize (lg_sl ([.ref (hMn 99), .int p1, .int p2, .int p3, .int p4]) ++ List.replicate (6 - (lg_sl ([.ref (hMn 99), .int p1, .int p2, .int p3, .int p4])).length) Slot.unset).toArray = ls at hl ⊢
  have hl : lv_has ls 6 [(0, .ref (hMn 99)), (1, .int p1), (2, .int p2), (3, .int p3), (4, .int p4)] := hl
  unfold f_X10_buys at hf
  obtain ⟨H, hHe⟩ : ∃ z, z = s.heap := ⟨_, rfl⟩
  obtain ⟨locs, hLe⟩ : ∃ z : List Loc, z = [] := ⟨_, rfl⟩
  rw [← hLe]
  have hS : va_S A s.heap H locs := by rw [hHe, hLe]; exact hS
  have hP : va_P D vwCl (wMn K hMn rMn0 (hRo 99) rMn3 rMn4 rMn5 (hDr 99) rMn7 rMn8 rMn9 rMn10 sMn ++ wDr K hDr rDr1 rDr3 rDr4 sDr ++ wRo K hRo sRo) H := by rw [hHe]; exact hP
  have hgo : W p l e (headSpec wz_X10_buys r_X10_buys).room s m args below meth c H locs 0 0 Q (F0 m 0 ls []) := by
    refine lv_iload_n hx hb dX10_buys_0 rfl (lv_at hl 1 rfl) ?_
    obtain ⟨o1, go1, hf⟩ := bd_s hf
    refine ro_Si (As := [.int p1]) (rest := []) ⟨hx, hb, hml, hown, hts⟩ (c_X10_isRule l D K F p1 o1 go1) (va_cwS 1 hts (gcS_X10_isRule (mB39 _ (List.mem_of_getElem? (i := 1) rfl))) rfl rfl rfl hdS_X10_isRule ⟨Nat.le_of_ble_eq_true rfl, Nat.le_of_ble_eq_true rfl⟩) hK hP hS va_Pnil rfl hl.1 rfl (Nat.le_of_ble_eq_true rfl) dX10_buys_1 ⟨Nat.zero_le _, Nat.zero_le _⟩ (fun H locs hP hS => ?_)
    refine lv_if_eq (tgt := 18) hx hb dX10_buys_4 (by decide) (fun c2 => ?_) (fun c2 => ?_)
    · have hf := it_t hf c2
      refine lv_iconst (v := (1 : Int32)) hx hb dX10_buys_18 (by decide) ?_
      exact w19 (1 : Int32) sMn H locs ls hf hP hD hS (lv_sub hl [0, 1, 2, 3, 4] rfl)
    · have hf := it_f hf c2
      refine lv_aload_n hx hb dX10_buys_7 rfl (lv_at hl 0 rfl) ?_
      refine lv_iload_n hx hb dX10_buys_8 rfl (lv_at hl 2 rfl) ?_
      refine lv_iload_n hx hb dX10_buys_9 rfl (lv_at hl 3 rfl) ?_
      refine lv_iload hx hb dX10_buys_10 (lv_at hl 4 rfl) ?_
      obtain ⟨o3, go3, hf⟩ := bd_s hf
      refine ro_Vi (As := [.int p2, .int p3, .int p4]) (rest := []) ⟨hx, hb, hml, hown, hts⟩ (c_X10_whyNoBuying l D K F hMn rMn0 rMn3 rMn4 rMn5 (hDr 99) rMn7 rMn8 rMn9 rMn10 hRo sMn sRo p2 p3 p4 o3 go3) (cwV 3 hts (gcV_X10_whyNoBuying (mB39 _ (List.mem_of_getElem? (i := 4) rfl))) rfl rfl rfl hdV_X10_whyNoBuying ⟨Nat.le_of_ble_eq_true rfl, Nat.le_of_ble_eq_true rfl⟩) hK hP hS (va_PL (cs := [wMn K hMn rMn0 (hRo 99) rMn3 rMn4 rMn5 (hDr 99) rMn7 rMn8 rMn9 rMn10 sMn, wDr K hDr rDr1 rDr3 rDr4 sDr, wRo K hRo sRo]) (cc := [wMn K hMn rMn0 (hRo 99) rMn3 rMn4 rMn5 (hDr 99) rMn7 rMn8 rMn9 rMn10 sMn, wRo K hRo sRo]) hP (fl3 _ _ _) [0, 2] rfl (fl2 _ _)) (va_recv hK hP (ci := 9) (q0 := 0) rfl (rwl (rwl o_Mn))) rfl hl.1 rfl (Nat.le_of_ble_eq_true rfl) dX10_buys_12 ⟨Nat.zero_le _, Nat.zero_le _⟩ (fun H locs hP hS => ?_)
      refine lv_goto (tgt := 19) hx hb dX10_buys_15 (by decide) ?_
      exact w19 o3 sMn H locs ls hf hP hD hS (lv_sub hl [0, 1, 2, 3, 4] rfl)
  rw [hHe] at hgo
  exact hgo

def wz_X10_isRuleOfRoad : List Cond := .code yX10_isRuleOfRoad cX10_isRuleOfRoad 2 (some .boolean) :: wsL_law
abbrev r_X10_isRuleOfRoad : Room := { frames := 1, cells := 0, slots := 0, locals := 20 }
set_option maxHeartbeats 4000000 in
set_option maxRecDepth 100000 in
theorem c_X10_isRuleOfRoad (l : Launch) (D : va_G) (K : Nat → ClassId) (F : Nat) (hMn : Nat → Nat) (rMn0 : Nat) (rMn3 : Nat) (rMn4 : Nat) (rMn5 : Nat) (rMn6 : Nat) (rMn7 : Nat) (rMn8 : Nat) (rMn9 : Nat) (rMn10 : Nat) (hRo : Nat → Nat) (sMn : MS) (sRo : MS) (p1 : Int32) (res : Int32) (hf : f_X10_isRuleOfRoad F sMn sRo p1 = some res) : Met l yX10_isRuleOfRoad wz_X10_isRuleOfRoad r_X10_isRuleOfRoad (va_Pc [.ref (hMn 99), .int p1] (PR D K (wMn K hMn rMn0 (hRo 99) rMn3 rMn4 rMn5 rMn6 rMn7 rMn8 rMn9 rMn10 sMn ++ wRo K hRo sRo))) (va_Qi (fun r (_ : Unit) => r = res) BN nOne) 0 0 nOne := by
  refine Met.ofW (cc := cX10_isRuleOfRoad) (maxL := 2) (ret := (some .boolean)) (by decide) rfl ?_
  intro p e s m args below meth c s₁ B hml hv
  obtain ⟨hargs, hP, hK⟩ := hv
  have hx := B.exec
  have hb := B.bytes
  have hr := B.returns
  have hts := atoms_spec (ws := wz_X10_isRuleOfRoad) B.pre
  have htl : ∀ w ∈ wsL_law, w.before args s = true := fun w h => hts w (List.mem_cons_of_mem _ h)
  have hown : s.vm.findClass RX10 = some m.cls := findClass_of_methodNamed B.named
  have hlocks := B.notSynchronized
  have hS : va_S nOne s.heap s.heap [] := va_S.rf
  have iX10 : ∀ w ∈ wsX100, w ∈ wz_X10_isRuleOfRoad := fun w h => List.mem_cons_of_mem _ (inlX10 w h)
  suffices hgo : ∀ Q : State → Prop, Q = MQ below (va_Qi (fun r (_ : Unit) => r = res) BN nOne) args s 0 0 nOne → W p l e (headSpec wz_X10_isRuleOfRoad r_X10_isRuleOfRoad).room s m args below meth c s.heap [] 0 0 Q (entryFrame m args 2) from hgo _ rfl
  intro Q hQ
  have hen : entryFrame m args 2 = entryFrame m (([.ref (hMn 99), .int p1] : List Value).toArray) 2 := by rw [hargs]
  have hl := lv_entry ([.ref (hMn 99), .int p1]) (n := 2) (Nat.le_of_ble_eq_true rfl)
  rw [hen, lg_entry_eq]
  generalize (lg_sl ([.ref (hMn 99), .int p1]) ++ List.replicate (2 - (lg_sl ([.ref (hMn 99), .int p1])).length) Slot.unset).toArray = ls at hl ⊢
  have hl : lv_has ls 2 [(0, .ref (hMn 99)), (1, .int p1)] := hl
  unfold f_X10_isRuleOfRoad at hf
  obtain ⟨H, hHe⟩ : ∃ z, z = s.heap := ⟨_, rfl⟩
  obtain ⟨locs, hLe⟩ : ∃ z : List Loc, z = [] := ⟨_, rfl⟩
  rw [← hLe]
  have hS : va_S nOne s.heap H locs := by rw [hHe, hLe]; exact hS
  have hP : va_P D vwCl (wMn K hMn rMn0 (hRo 99) rMn3 rMn4 rMn5 rMn6 rMn7 rMn8 rMn9 rMn10 sMn ++ wRo K hRo sRo) H := by rw [hHe]; exact hP
  have hgo : W p l e (headSpec wz_X10_isRuleOfRoad r_X10_isRuleOfRoad).room s m args below meth c H locs 0 0 Q (F0 m 0 ls []) := by
    refine lv_aload_n hx hb dX10_isRuleOfRoad_0 rfl (lv_at hl 0 rfl) ?_
    refine va_get (D := D) (ci := 9) (v := .ref (hRo 99)) (C := RX10) (T := TX10) (N := 14) hx hb hts iX10 hown hK hP 0 (rwl o_Mn) rfl 2 (by decide) (htl _ (mB1 _ (List.mem_of_getElem? (i := 18) rfl))) (fun _ h9 => h9) rfl dX10_isRuleOfRoad_1 ?_
    obtain ⟨o1, go1, hf⟩ := bd_s hf
    refine ro_Vi (As := []) (rest := []) ⟨hx, hb, hml, hown, hts⟩ (c_X9_isTold l D K F hRo sRo o1 go1) (cwV 0 hts (gcV_X9_isTold (mB30 _ (List.mem_of_getElem? (i := 0) rfl))) rfl rfl rfl hdV_X9_isTold ⟨Nat.le_of_ble_eq_true rfl, Nat.le_of_ble_eq_true rfl⟩) hK hP hS (va_PL (cs := [wMn K hMn rMn0 (hRo 99) rMn3 rMn4 rMn5 rMn6 rMn7 rMn8 rMn9 rMn10 sMn, wRo K hRo sRo]) (cc := [wRo K hRo sRo]) hP (fl2 _ _) [1] rfl (fl1 _)) (va_recv hK hP (ci := 8) (q0 := (1 + 0)) rfl (rwr ln_Mn o_Ro)) rfl hl.1 rfl (Nat.le_of_ble_eq_true rfl) dX10_isRuleOfRoad_4 ⟨Nat.zero_le _, Nat.zero_le _⟩ (fun H locs hP hS => ?_)
    refine lv_if_eq (tgt := 21) hx hb dX10_isRuleOfRoad_7 (by decide) (fun c2 => ?_) (fun c2 => ?_)
    · have hf := it_t hf c2
      refine lv_iconst (v := (0 : Int32)) hx hb dX10_isRuleOfRoad_21 (by decide) ?_
      have e9 := Option.some.inj hf
      rw [hQ]
      exact W.zret (v := (0 : Int32)) hx hb hr rfl (fun t ht hW => ⟨⟨(0 : Int32), (), rfl, e9, trivial⟩, hS.F ht⟩) hS.2.2 dX10_isRuleOfRoad_22
    · have hf := it_f hf c2
      refine lv_iload_n hx hb dX10_isRuleOfRoad_10 rfl (lv_at hl 1 rfl) ?_
      obtain ⟨o3, go3, hf⟩ := bd_s hf
      refine ro_Si (As := [.int p1]) (rest := []) ⟨hx, hb, hml, hown, hts⟩ (c_X10_isRule l D K F p1 o3 go3) (va_cwS 1 hts (gcS_X10_isRule (mB39 _ (List.mem_of_getElem? (i := 1) rfl))) rfl rfl rfl hdS_X10_isRule ⟨Nat.le_of_ble_eq_true rfl, Nat.le_of_ble_eq_true rfl⟩) hK hP hS va_Pnil rfl hl.1 rfl (Nat.le_of_ble_eq_true rfl) dX10_isRuleOfRoad_11 ⟨Nat.zero_le _, Nat.zero_le _⟩ (fun H locs hP hS => ?_)
      refine lv_if_eq (tgt := 21) hx hb dX10_isRuleOfRoad_14 (by decide) (fun c4 => ?_) (fun c4 => ?_)
      · have hf := it_t hf c4
        refine lv_iconst (v := (0 : Int32)) hx hb dX10_isRuleOfRoad_21 (by decide) ?_
        have e9 := Option.some.inj hf
        rw [hQ]
        exact W.zret (v := (0 : Int32)) hx hb hr rfl (fun t ht hW => ⟨⟨(0 : Int32), (), rfl, e9, trivial⟩, hS.F ht⟩) hS.2.2 dX10_isRuleOfRoad_22
      · have hf := it_f hf c4
        refine lv_iconst (v := (1 : Int32)) hx hb dX10_isRuleOfRoad_17 (by decide) ?_
        refine lv_goto (tgt := 22) hx hb dX10_isRuleOfRoad_18 (by decide) ?_
        have e9 := Option.some.inj hf
        rw [hQ]
        exact W.zret (v := (1 : Int32)) hx hb hr rfl (fun t ht hW => ⟨⟨(1 : Int32), (), rfl, e9, trivial⟩, hS.F ht⟩) hS.2.2 dX10_isRuleOfRoad_22
  rw [hHe] at hgo
  exact hgo

theorem gcV_X10_isRuleOfRoad {T0 : Cond} {own : String} {i : Nat} (h : Cond.methodLink own i yX10_isRuleOfRoad ∈ wsL_law) : GoodIn (T0 :: wsL_law) (wsV own i RX10 yX10_isRuleOfRoad wz_X10_isRuleOfRoad) := gV h (mB41 _ (List.mem_of_getElem? (i := 1) rfl)) (mB41 _ (List.mem_of_getElem? (i := 2) rfl)) (mB1 _ (List.mem_of_getElem? (i := 2) rfl)) (mB41 _ (List.mem_of_getElem? (i := 3) rfl))
theorem hdV_X10_isRuleOfRoad : yX10_isRuleOfRoad.cls = RX10 ∧ yX10_isRuleOfRoad.cls ≠ "java/lang/invoke/MethodHandle" ∧ yX10_isRuleOfRoad.cls ≠ "java/lang/invoke/VarHandle" ∧ (parseMethodDescriptor yX10_isRuleOfRoad.desc).map (fun d => d.parameters.length) = some 1 := by decide +kernel
theorem gcV_X1_travelOpen {T0 : Cond} {own : String} {i : Nat} (h : Cond.methodLink own i yX1_travelOpen ∈ wsL_law) : GoodIn (T0 :: wsL_law) (wsV own i RX1 yX1_travelOpen wz_X1_travelOpen) := gV h (mB41 _ (List.mem_of_getElem? (i := 5) rfl)) (mB41 _ (List.mem_of_getElem? (i := 6) rfl)) (mB2 _ (List.mem_of_getElem? (i := 6) rfl)) (mB41 _ (List.mem_of_getElem? (i := 7) rfl))
theorem hdV_X1_travelOpen : yX1_travelOpen.cls = RX1 ∧ yX1_travelOpen.cls ≠ "java/lang/invoke/MethodHandle" ∧ yX1_travelOpen.cls ≠ "java/lang/invoke/VarHandle" ∧ (parseMethodDescriptor yX1_travelOpen.desc).map (fun d => d.parameters.length) = some 2 := by decide +kernel
def wz_X10_byRule : List Cond := .code yX10_byRule cX10_byRule 2 (some .int) :: wsL_law
abbrev r_X10_byRule : Room := { frames := 5, cells := 0, slots := 0, locals := 120 }
set_option maxHeartbeats 4000000 in
set_option maxRecDepth 100000 in
theorem c_X10_byRule (l : Launch) (D : va_G) (K : Nat → ClassId) (F : Nat) (hMn : Nat → Nat) (rMn0 : Nat) (rMn3 : Nat) (rMn4 : Nat) (rMn5 : Nat) (rMn7 : Nat) (rMn8 : Nat) (rMn9 : Nat) (rMn10 : Nat) (hDr : Nat → Nat) (rDr3 : Nat) (rDr4 : Nat) (hDw : Nat → Nat) (hRo : Nat → Nat) (sz : Nat) (sMn : MS) (sDr : MS) (sDw : MS) (sRo : MS) (p1 : Int32) (res : Int32 × Nat × MS × MS × MS) (hf : f_X10_byRule F sRo p1 sMn sDr sDw = some res) : Met l yX10_byRule wz_X10_byRule r_X10_byRule (va_Pc [.ref (hMn 99), .int p1] (PW D K (wMn K hMn rMn0 (hRo 99) rMn3 rMn4 rMn5 (hDr 99) rMn7 rMn8 rMn9 rMn10 sMn ++ wDr K hDr (hDw 99) rDr3 rDr4 sDr ++ wDw K hDw sDw ++ wRo K hRo sRo) sz)) (va_Qi (fun r u => r = res.1 ∧ u = res.2) (fun u t => BW D K (va_A (wMn K hMn rMn0 (hRo 99) rMn3 rMn4 rMn5 (hDr 99) rMn7 rMn8 rMn9 rMn10 sMn ++ wDr K hDr (hDw 99) rDr3 rDr4 sDr ++ wDw K hDw sDw ++ wRo K hRo sRo) sz) (match u.1 with | _ => wMn K hMn rMn0 (hRo 99) rMn3 rMn4 rMn5 (hDr 99) rMn7 rMn8 rMn9 rMn10 u.2.1 ++ wDr K hDr (hDw 99) rDr3 rDr4 u.2.2.1 ++ wDw K hDw u.2.2.2 ++ wRo K hRo sRo) t) (va_A (wMn K hMn rMn0 (hRo 99) rMn3 rMn4 rMn5 (hDr 99) rMn7 rMn8 rMn9 rMn10 sMn ++ wDr K hDr (hDw 99) rDr3 rDr4 sDr ++ wDw K hDw sDw ++ wRo K hRo sRo) sz)) 0 0 (va_A (wMn K hMn rMn0 (hRo 99) rMn3 rMn4 rMn5 (hDr 99) rMn7 rMn8 rMn9 rMn10 sMn ++ wDr K hDr (hDw 99) rDr3 rDr4 sDr ++ wDw K hDw sDw ++ wRo K hRo sRo) sz) := by
  refine Met.ofW (cc := cX10_byRule) (maxL := 2) (ret := (some .int)) (by decide) rfl ?_
  intro p e s m args below meth c s₁ B hml hv
  obtain ⟨hargs, hsz, hP, hK, hD0⟩ := hv
  have hx := B.exec
  have hb := B.bytes
  have hr := B.returns
  have hts := atoms_spec (ws := wz_X10_byRule) B.pre
  have htl : ∀ w ∈ wsL_law, w.before args s = true := fun w h => hts w (List.mem_cons_of_mem _ h)
  have hown : s.vm.findClass RX10 = some m.cls := findClass_of_methodNamed B.named
  have hlocks := B.notSynchronized
  subst hsz
  have hD := hD0.self (sz := s.heap.size)
  generalize hAe : va_A (wMn K hMn rMn0 (hRo 99) rMn3 rMn4 rMn5 (hDr 99) rMn7 rMn8 rMn9 rMn10 sMn ++ wDr K hDr (hDw 99) rDr3 rDr4 sDr ++ wDw K hDw sDw ++ wRo K hRo sRo) s.heap.size = A at hD ⊢
  have hA : ∀ q : Nat, s.heap.size ≤ q → A q := fun q h => by rw [← hAe]; exact Or.inr h
  have hS : va_S A s.heap s.heap [] := va_S.rf
  have iX10 : ∀ w ∈ wsX100, w ∈ wz_X10_byRule := fun w h => List.mem_cons_of_mem _ (inlX10 w h)
  suffices hgo : ∀ Q : State → Prop, Q = MQ below (va_Qi (fun r u => r = res.1 ∧ u = res.2) (fun u t => BW D K A (match u.1 with | _ => wMn K hMn rMn0 (hRo 99) rMn3 rMn4 rMn5 (hDr 99) rMn7 rMn8 rMn9 rMn10 u.2.1 ++ wDr K hDr (hDw 99) rDr3 rDr4 u.2.2.1 ++ wDw K hDw u.2.2.2 ++ wRo K hRo sRo) t) A) args s 0 0 A → W p l e (headSpec wz_X10_byRule r_X10_byRule).room s m args below meth c s.heap [] 0 0 Q (entryFrame m args 2) from hgo _ rfl
  intro Q hQ
  have hen : entryFrame m args 2 = entryFrame m (([.ref (hMn 99), .int p1] : List Value).toArray) 2 := by rw [hargs]
  have hl := lv_entry ([.ref (hMn 99), .int p1]) (n := 2) (Nat.le_of_ble_eq_true rfl)
  rw [hen, lg_entry_eq]
  generalize (lg_sl ([.ref (hMn 99), .int p1]) ++ List.replicate (2 - (lg_sl ([.ref (hMn 99), .int p1])).length) Slot.unset).toArray = ls at hl ⊢
  have hl : lv_has ls 2 [(0, .ref (hMn 99)), (1, .int p1)] := hl
  unfold f_X10_byRule at hf
  obtain ⟨H, hHe⟩ : ∃ z, z = s.heap := ⟨_, rfl⟩
  obtain ⟨locs, hLe⟩ : ∃ z : List Loc, z = [] := ⟨_, rfl⟩
  rw [← hLe]
  have hS : va_S A s.heap H locs := by rw [hHe, hLe]; exact hS
  have hP : va_P D vwCl (wMn K hMn rMn0 (hRo 99) rMn3 rMn4 rMn5 (hDr 99) rMn7 rMn8 rMn9 rMn10 sMn ++ wDr K hDr (hDw 99) rDr3 rDr4 sDr ++ wDw K hDw sDw ++ wRo K hRo sRo) H := by rw [hHe]; exact hP
  have hgo : W p l e (headSpec wz_X10_byRule r_X10_byRule).room s m args below meth c H locs 0 0 Q (F0 m 0 ls []) := by
    refine lv_aload_n hx hb dX10_byRule_0 rfl (lv_at hl 0 rfl) ?_
    refine lv_iload_n hx hb dX10_byRule_1 rfl (lv_at hl 1 rfl) ?_
    obtain ⟨o1, go1, hf⟩ := bd_s hf
    refine ro_Vi (As := [.int p1]) (rest := []) ⟨hx, hb, hml, hown, hts⟩ (c_X10_isRuleOfRoad l D K F hMn rMn0 rMn3 rMn4 rMn5 (hDr 99) rMn7 rMn8 rMn9 rMn10 hRo sMn sRo p1 o1 go1) (cwV 1 hts (gcV_X10_isRuleOfRoad (mB41 _ (List.mem_of_getElem? (i := 0) rfl))) rfl rfl rfl hdV_X10_isRuleOfRoad ⟨Nat.le_of_ble_eq_true rfl, Nat.le_of_ble_eq_true rfl⟩) hK hP hS (va_PL (cs := [wMn K hMn rMn0 (hRo 99) rMn3 rMn4 rMn5 (hDr 99) rMn7 rMn8 rMn9 rMn10 sMn, wDr K hDr (hDw 99) rDr3 rDr4 sDr, wDw K hDw sDw, wRo K hRo sRo]) (cc := [wMn K hMn rMn0 (hRo 99) rMn3 rMn4 rMn5 (hDr 99) rMn7 rMn8 rMn9 rMn10 sMn, wRo K hRo sRo]) hP (fl4 _ _ _ _) [0, 3] rfl (fl2 _ _)) (va_recv hK hP (ci := 9) (q0 := 0) rfl (rwl (rwl (rwl o_Mn)))) rfl hl.1 rfl (Nat.le_of_ble_eq_true rfl) dX10_byRule_2 ⟨Nat.zero_le _, Nat.zero_le _⟩ (fun H locs hP hS => ?_)
    refine lv_if_ne (tgt := 14) hx hb dX10_byRule_5 (by decide) (fun c2 => ?_) (fun c2 => ?_)
    · have hf := it_f hf c2
      refine lv_aload_n hx hb dX10_byRule_14 rfl (lv_at hl 0 rfl) ?_
      refine lv_aload_n hx hb dX10_byRule_15 rfl (lv_at hl 0 rfl) ?_
      refine va_get (D := D) (ci := 9) (v := .ref (hDr 99)) (C := RX10) (T := TX10) (N := 14) hx hb hts iX10 hown hK hP 0 (rwl (rwl (rwl o_Mn))) rfl 6 (by decide) (htl _ (mB2 _ (List.mem_of_getElem? (i := 7) rfl))) (fun _ h9 => h9) rfl dX10_byRule_16 ?_
      refine lv_aload_n hx hb dX10_byRule_19 rfl (lv_at hl 0 rfl) ?_
      refine va_get (D := D) (ci := 9) (v := .ref (hRo 99)) (C := RX10) (T := TX10) (N := 14) hx hb hts iX10 hown hK hP 0 (rwl (rwl (rwl o_Mn))) rfl 2 (by decide) (htl _ (mB1 _ (List.mem_of_getElem? (i := 18) rfl))) (fun _ h9 => h9) rfl dX10_byRule_20 ?_
      refine lv_iload_n hx hb dX10_byRule_23 rfl (lv_at hl 1 rfl) ?_
      obtain ⟨o3, go3, hf⟩ := bd_s hf
      refine rk_Vi (wn := wMn K hMn rMn0 (hRo 99) rMn3 rMn4 rMn5 (hDr 99) rMn7 rMn8 rMn9 rMn10 sMn ++ wDr K hDr (hDw 99) rDr3 rDr4 o3.2.1 ++ wDw K hDw o3.2.2 ++ wRo K hRo sRo) [wMn K hMn rMn0 (hRo 99) rMn3 rMn4 rMn5 (hDr 99) rMn7 rMn8 rMn9 rMn10 sMn, wDr K hDr (hDw 99) rDr3 rDr4 sDr, wDw K hDw sDw, wRo K hRo sRo] [wDr K hDr (hDw 99) rDr3 rDr4 sDr, wDw K hDw sDw, wRo K hRo sRo] [wDr K hDr (hDw 99) rDr3 rDr4 o3.2.1, wDw K hDw o3.2.2, wRo K hRo sRo] [wMn K hMn rMn0 (hRo 99) rMn3 rMn4 rMn5 (hDr 99) rMn7 rMn8 rMn9 rMn10 sMn, wDr K hDr (hDw 99) rDr3 rDr4 o3.2.1, wDw K hDw o3.2.2, wRo K hRo sRo] (As := [.ref (hRo 99), .int p1]) (rest := [.ref (hMn 99)]) ⟨hx, hb, hml, hown, hts⟩ (c_X1_travelOpen l D K F hDr rDr3 rDr4 hDw hRo H.size sDr sDw sRo p1 o3 go3) (cwV 2 hts (gcV_X1_travelOpen (mB41 _ (List.mem_of_getElem? (i := 4) rfl))) rfl rfl rfl hdV_X1_travelOpen ⟨Nat.le_of_ble_eq_true rfl, Nat.le_of_ble_eq_true rfl⟩) hK hP hD hS hA [1, 2, 3] (fl4 _ _ _ _) rfl (by decide) (fl3 _ _ _) (fl3 _ _ _) rfl rfl (fl4 _ _ _ _) (va_recv hK hP (ci := 1) (q0 := (1 + 0)) rfl (rwl (rwl (rwr ln_Mn o_Dr)))) rfl hl.1 rfl (Nat.le_of_ble_eq_true rfl) dX10_byRule_24 ⟨Nat.zero_le _, Nat.zero_le _⟩ (fun H locs hP hD hS => ?_)
      have hP : va_P D vwCl (wMn K hMn rMn0 (hRo 99) rMn3 rMn4 rMn5 (hDr 99) rMn7 rMn8 rMn9 rMn10 sMn ++ wDr K hDr (hDw 99) rDr3 rDr4 o3.2.1 ++ wDw K hDw o3.2.2 ++ wRo K hRo sRo) H := hP
      have hD : va_D A (wMn K hMn rMn0 (hRo 99) rMn3 rMn4 rMn5 (hDr 99) rMn7 rMn8 rMn9 rMn10 sMn ++ wDr K hDr (hDw 99) rDr3 rDr4 o3.2.1 ++ wDw K hDw o3.2.2 ++ wRo K hRo sRo) := hD
      obtain ⟨o4, go4, hf⟩ := bd_s hf
      refine rk_Vi (wn := wMn K hMn rMn0 (hRo 99) rMn3 rMn4 rMn5 (hDr 99) rMn7 rMn8 rMn9 rMn10 o4.2 ++ wDr K hDr (hDw 99) rDr3 rDr4 o3.2.1 ++ wDw K hDw o3.2.2 ++ wRo K hRo sRo) [wMn K hMn rMn0 (hRo 99) rMn3 rMn4 rMn5 (hDr 99) rMn7 rMn8 rMn9 rMn10 sMn, wDr K hDr (hDw 99) rDr3 rDr4 o3.2.1, wDw K hDw o3.2.2, wRo K hRo sRo] [wMn K hMn rMn0 (hRo 99) rMn3 rMn4 rMn5 (hDr 99) rMn7 rMn8 rMn9 rMn10 sMn] [wMn K hMn rMn0 (hRo 99) rMn3 rMn4 rMn5 (hDr 99) rMn7 rMn8 rMn9 rMn10 o4.2] [wMn K hMn rMn0 (hRo 99) rMn3 rMn4 rMn5 (hDr 99) rMn7 rMn8 rMn9 rMn10 o4.2, wDr K hDr (hDw 99) rDr3 rDr4 o3.2.1, wDw K hDw o3.2.2, wRo K hRo sRo] (As := [.int o3.1]) (rest := []) ⟨hx, hb, hml, hown, hts⟩ (c_X10_accept l D K F hMn rMn0 (hRo 99) rMn3 rMn4 rMn5 (hDr 99) rMn7 rMn8 rMn9 rMn10 H.size sMn o3.1 o4 go4) (cwV 1 hts (gcV_X10_accept (mB17 _ (List.mem_of_getElem? (i := 14) rfl))) rfl rfl rfl hdV_X10_accept ⟨Nat.le_of_ble_eq_true rfl, Nat.le_of_ble_eq_true rfl⟩) hK hP hD hS hA [0] (fl4 _ _ _ _) rfl (by decide) (fl1 _) (fl1 _) rfl rfl (fl4 _ _ _ _) (va_recv hK hP (ci := 9) (q0 := 0) rfl (rwl (rwl (rwl o_Mn)))) rfl hl.1 rfl (Nat.le_of_ble_eq_true rfl) dX10_byRule_27 ⟨Nat.zero_le _, Nat.zero_le _⟩ (fun H locs hP hD hS => ?_)
      have hP : va_P D vwCl (wMn K hMn rMn0 (hRo 99) rMn3 rMn4 rMn5 (hDr 99) rMn7 rMn8 rMn9 rMn10 o4.2 ++ wDr K hDr (hDw 99) rDr3 rDr4 o3.2.1 ++ wDw K hDw o3.2.2 ++ wRo K hRo sRo) H := hP
      have hD : va_D A (wMn K hMn rMn0 (hRo 99) rMn3 rMn4 rMn5 (hDr 99) rMn7 rMn8 rMn9 rMn10 o4.2 ++ wDr K hDr (hDw 99) rDr3 rDr4 o3.2.1 ++ wDw K hDw o3.2.2 ++ wRo K hRo sRo) := hD
      have e9 := Option.some.inj hf
      rw [hQ]
      exact W.iret (v := o4.1) hx hb hr (fun t ht hW => ⟨⟨o4.1, (0, o4.2, o3.2.1, o3.2.2), rfl, ⟨pr1 e9, pr2 e9⟩, ⟨by rw [ht]; exact hP, va_K.moved hW.alike hK, hD⟩⟩, hS.F ht⟩) hS.2.2 dX10_byRule_30
    · have hf := it_t hf c2
      refine lv_aload_n hx hb dX10_byRule_8 rfl (lv_at hl 0 rfl) ?_
      refine lv_iconst (v := (1 : Int32)) hx hb dX10_byRule_9 (by decide) ?_
      obtain ⟨o5, go5, hf⟩ := bd_s hf
      refine rk_Vi (wn := wMn K hMn rMn0 (hRo 99) rMn3 rMn4 rMn5 (hDr 99) rMn7 rMn8 rMn9 rMn10 o5.2 ++ wDr K hDr (hDw 99) rDr3 rDr4 sDr ++ wDw K hDw sDw ++ wRo K hRo sRo) [wMn K hMn rMn0 (hRo 99) rMn3 rMn4 rMn5 (hDr 99) rMn7 rMn8 rMn9 rMn10 sMn, wDr K hDr (hDw 99) rDr3 rDr4 sDr, wDw K hDw sDw, wRo K hRo sRo] [wMn K hMn rMn0 (hRo 99) rMn3 rMn4 rMn5 (hDr 99) rMn7 rMn8 rMn9 rMn10 sMn] [wMn K hMn rMn0 (hRo 99) rMn3 rMn4 rMn5 (hDr 99) rMn7 rMn8 rMn9 rMn10 o5.2] [wMn K hMn rMn0 (hRo 99) rMn3 rMn4 rMn5 (hDr 99) rMn7 rMn8 rMn9 rMn10 o5.2, wDr K hDr (hDw 99) rDr3 rDr4 sDr, wDw K hDw sDw, wRo K hRo sRo] (As := [.int (1 : Int32)]) (rest := []) ⟨hx, hb, hml, hown, hts⟩ (c_X10_refuse l D K F hMn rMn0 (hRo 99) rMn3 rMn4 rMn5 (hDr 99) rMn7 rMn8 rMn9 rMn10 H.size sMn (1 : Int32) o5 go5) (cwV 1 hts (gcV_X10_refuse (mB7 _ (List.mem_of_getElem? (i := 18) rfl))) rfl rfl rfl hdV_X10_refuse ⟨Nat.le_of_ble_eq_true rfl, Nat.le_of_ble_eq_true rfl⟩) hK hP hD hS hA [0] (fl4 _ _ _ _) rfl (by decide) (fl1 _) (fl1 _) rfl rfl (fl4 _ _ _ _) (va_recv hK hP (ci := 9) (q0 := 0) rfl (rwl (rwl (rwl o_Mn)))) rfl hl.1 rfl (Nat.le_of_ble_eq_true rfl) dX10_byRule_10 ⟨Nat.zero_le _, Nat.zero_le _⟩ (fun H locs hP hD hS => ?_)
      have hP : va_P D vwCl (wMn K hMn rMn0 (hRo 99) rMn3 rMn4 rMn5 (hDr 99) rMn7 rMn8 rMn9 rMn10 o5.2 ++ wDr K hDr (hDw 99) rDr3 rDr4 sDr ++ wDw K hDw sDw ++ wRo K hRo sRo) H := hP
      have hD : va_D A (wMn K hMn rMn0 (hRo 99) rMn3 rMn4 rMn5 (hDr 99) rMn7 rMn8 rMn9 rMn10 o5.2 ++ wDr K hDr (hDw 99) rDr3 rDr4 sDr ++ wDw K hDw sDw ++ wRo K hRo sRo) := hD
      have e9 := Option.some.inj hf
      rw [hQ]
      exact W.iret (v := o5.1) hx hb hr (fun t ht hW => ⟨⟨o5.1, (0, o5.2, sDr, sDw), rfl, ⟨pr1 e9, pr2 e9⟩, ⟨by rw [ht]; exact hP, va_K.moved hW.alike hK, hD⟩⟩, hS.F ht⟩) hS.2.2 dX10_byRule_13
  rw [hHe] at hgo
  exact hgo
