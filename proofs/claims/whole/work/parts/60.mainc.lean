theorem gcV_X3_takeIn {T0 : Cond} {own : String} {i : Nat} (h : Cond.methodLink own i yX3_takeIn ∈ wsL_law) : GoodIn (T0 :: wsL_law) (wsV own i RX3 yX3_takeIn wz_X3_takeIn) := gV h (mB62 _ (List.mem_of_getElem? (i := 8) rfl)) (mB62 _ (List.mem_of_getElem? (i := 9) rfl)) (mB2 _ (List.mem_of_getElem? (i := 18) rfl)) (mB62 _ (List.mem_of_getElem? (i := 10) rfl))
theorem hdV_X3_takeIn : yX3_takeIn.cls = RX3 ∧ yX3_takeIn.cls ≠ "java/lang/invoke/MethodHandle" ∧ yX3_takeIn.cls ≠ "java/lang/invoke/VarHandle" ∧ (parseMethodDescriptor yX3_takeIn.desc).map (fun d => d.parameters.length) = some 2 := by decide +kernel
def wz_X10_fill : List Cond := .code yX10_fill cX10_fill 2 (some .int) :: wsL_law
abbrev r_X10_fill : Room := { frames := 3, cells := 0, slots := 0, locals := 68 }
set_option maxHeartbeats 4000000 in
set_option maxRecDepth 100000 in
theorem c_X10_fill (l : Launch) (D : va_G) (K : Nat → ClassId) (F : Nat) (hMn : Nat → Nat) (rMn0 : Nat) (rMn3 : Nat) (rMn4 : Nat) (rMn5 : Nat) (rMn6 : Nat) (rMn7 : Nat) (rMn8 : Nat) (rMn10 : Nat) (hJo : Nat → Nat) (rJo6 : Nat) (gJo5 : Nat → Nat) (hJk : Nat → Nat) (hRo : Nat → Nat) (sz : Nat) (sMn : MS) (sJo : MS) (sJk : MS) (sRo : MS) (p1 : Int32) (res : Int32 × MS × MS × MS) (hf : f_X10_fill F sRo p1 sMn sJo sJk = some res) : Met l yX10_fill wz_X10_fill r_X10_fill (va_Pc [.ref (hMn 99), .int p1] (PW D K (wMn K hMn rMn0 (hRo 99) rMn3 rMn4 rMn5 rMn6 rMn7 rMn8 (hJo 99) rMn10 sMn ++ wJo K hJo rJo6 hJk gJo5 sJo ++ wJk K hJk sJk ++ wRo K hRo sRo) sz)) (va_Qi (fun r u => r = res.1 ∧ u = res.2) (fun u t => BW D K (va_A (wMn K hMn rMn0 (hRo 99) rMn3 rMn4 rMn5 rMn6 rMn7 rMn8 (hJo 99) rMn10 sMn ++ wJo K hJo rJo6 hJk gJo5 sJo ++ wJk K hJk sJk ++ wRo K hRo sRo) sz) (wMn K hMn rMn0 (hRo 99) rMn3 rMn4 rMn5 rMn6 rMn7 rMn8 (hJo 99) rMn10 u.1 ++ wJo K hJo rJo6 hJk gJo5 u.2.1 ++ wJk K hJk u.2.2 ++ wRo K hRo sRo) t) (va_A (wMn K hMn rMn0 (hRo 99) rMn3 rMn4 rMn5 rMn6 rMn7 rMn8 (hJo 99) rMn10 sMn ++ wJo K hJo rJo6 hJk gJo5 sJo ++ wJk K hJk sJk ++ wRo K hRo sRo) sz)) 0 0 (va_A (wMn K hMn rMn0 (hRo 99) rMn3 rMn4 rMn5 rMn6 rMn7 rMn8 (hJo 99) rMn10 sMn ++ wJo K hJo rJo6 hJk gJo5 sJo ++ wJk K hJk sJk ++ wRo K hRo sRo) sz) := by
  refine Met.ofW (cc := cX10_fill) (maxL := 2) (ret := (some .int)) (by decide) rfl ?_
  intro p e s m args below meth c s₁ B hml hv
  obtain ⟨hargs, hsz, hP, hK, hD0⟩ := hv
  have hx := B.exec
  have hb := B.bytes
  have hr := B.returns
  have hts := atoms_spec (ws := wz_X10_fill) B.pre
  have htl : ∀ w ∈ wsL_law, w.before args s = true := fun w h => hts w (List.mem_cons_of_mem _ h)
  have hown : s.vm.findClass RX10 = some m.cls := findClass_of_methodNamed B.named
  have hlocks := B.notSynchronized
  subst hsz
  have hD := hD0.self (sz := s.heap.size)
  generalize hAe : va_A (wMn K hMn rMn0 (hRo 99) rMn3 rMn4 rMn5 rMn6 rMn7 rMn8 (hJo 99) rMn10 sMn ++ wJo K hJo rJo6 hJk gJo5 sJo ++ wJk K hJk sJk ++ wRo K hRo sRo) s.heap.size = A at hD ⊢
  have hA : ∀ q : Nat, s.heap.size ≤ q → A q := fun q h => by rw [← hAe]; exact Or.inr h
  have hS : va_S A s.heap s.heap [] := va_S.rf
  have iX10 : ∀ w ∈ wsX100, w ∈ wz_X10_fill := fun w h => List.mem_cons_of_mem _ (inlX10 w h)
  have iX3 : ∀ w ∈ wsX30, w ∈ wz_X10_fill := fun w h => List.mem_cons_of_mem _ (inlX3 w h)
  have iX9 : ∀ w ∈ wsX90, w ∈ wz_X10_fill := fun w h => List.mem_cons_of_mem _ (inlX9 w h)
  suffices hgo : ∀ Q : State → Prop, Q = MQ below (va_Qi (fun r u => r = res.1 ∧ u = res.2) (fun u t => BW D K A (wMn K hMn rMn0 (hRo 99) rMn3 rMn4 rMn5 rMn6 rMn7 rMn8 (hJo 99) rMn10 u.1 ++ wJo K hJo rJo6 hJk gJo5 u.2.1 ++ wJk K hJk u.2.2 ++ wRo K hRo sRo) t) A) args s 0 0 A → W p l e (headSpec wz_X10_fill r_X10_fill).room s m args below meth c s.heap [] 0 0 Q (entryFrame m args 2) from hgo _ rfl
  intro Q hQ
  have w63 : ∀ (sMn : MS), ∀ (sJo : MS), ∀ (sJk : MS), ∀ (H : Heap) (locs : List Loc) (ls : Array Slot), f_X10_fill_63 F sRo p1 sMn sJo sJk = some res → va_P D vwCl (wMn K hMn rMn0 (hRo 99) rMn3 rMn4 rMn5 rMn6 rMn7 rMn8 (hJo 99) rMn10 sMn ++ wJo K hJo rJo6 hJk gJo5 sJo ++ wJk K hJk sJk ++ wRo K hRo sRo) H → va_D A (wMn K hMn rMn0 (hRo 99) rMn3 rMn4 rMn5 rMn6 rMn7 rMn8 (hJo 99) rMn10 sMn ++ wJo K hJo rJo6 hJk gJo5 sJo ++ wJk K hJk sJk ++ wRo K hRo sRo) → va_S A s.heap H locs → lv_has ls 2 [(0, .ref (hMn 99))] → W p l e (headSpec wz_X10_fill r_X10_fill).room s m args below meth c H locs 0 0 Q (F0 m 63 ls []) := by
    intro sMn sJo sJk H locs ls hf hP hD hS hl
    unfold f_X10_fill_63 at hf
    refine lv_aload_n hx hb dX10_fill_63 rfl (lv_at hl 0 rfl) ?_
    refine lv_iconst (v := (2 : Int32)) hx hb dX10_fill_64 (by decide) ?_
    obtain ⟨o16, go16, hf⟩ := bd_s hf
    refine rk_Vi (wn := wMn K hMn rMn0 (hRo 99) rMn3 rMn4 rMn5 rMn6 rMn7 rMn8 (hJo 99) rMn10 o16.2 ++ wJo K hJo rJo6 hJk gJo5 sJo ++ wJk K hJk sJk ++ wRo K hRo sRo) [wMn K hMn rMn0 (hRo 99) rMn3 rMn4 rMn5 rMn6 rMn7 rMn8 (hJo 99) rMn10 sMn, wJo K hJo rJo6 hJk gJo5 sJo, wJk K hJk sJk, wRo K hRo sRo] [wMn K hMn rMn0 (hRo 99) rMn3 rMn4 rMn5 rMn6 rMn7 rMn8 (hJo 99) rMn10 sMn] [wMn K hMn rMn0 (hRo 99) rMn3 rMn4 rMn5 rMn6 rMn7 rMn8 (hJo 99) rMn10 o16.2] [wMn K hMn rMn0 (hRo 99) rMn3 rMn4 rMn5 rMn6 rMn7 rMn8 (hJo 99) rMn10 o16.2, wJo K hJo rJo6 hJk gJo5 sJo, wJk K hJk sJk, wRo K hRo sRo] (As := [.int (2 : Int32)]) (rest := []) ⟨hx, hb, hml, hown, hts⟩ (c_X10_refuse l D K F hMn rMn0 (hRo 99) rMn3 rMn4 rMn5 rMn6 rMn7 rMn8 (hJo 99) rMn10 H.size sMn (2 : Int32) o16 go16) (cwV 1 hts (gcV_X10_refuse (mB7 _ (List.mem_of_getElem? (i := 18) rfl))) rfl rfl rfl hdV_X10_refuse ⟨Nat.le_of_ble_eq_true rfl, Nat.le_of_ble_eq_true rfl⟩) hK hP hD hS hA [0] (fl4 _ _ _ _) rfl (by decide) (fl1 _) (fl1 _) rfl rfl (fl4 _ _ _ _) (va_recv hK hP (ci := 9) (q0 := 0) rfl (rwl (rwl (rwl o_Mn)))) rfl hl.1 rfl (Nat.le_of_ble_eq_true rfl) dX10_fill_65 ⟨Nat.zero_le _, Nat.zero_le _⟩ (fun H locs hP hD hS => ?_)
    have hP : va_P D vwCl (wMn K hMn rMn0 (hRo 99) rMn3 rMn4 rMn5 rMn6 rMn7 rMn8 (hJo 99) rMn10 o16.2 ++ wJo K hJo rJo6 hJk gJo5 sJo ++ wJk K hJk sJk ++ wRo K hRo sRo) H := hP
    have hD : va_D A (wMn K hMn rMn0 (hRo 99) rMn3 rMn4 rMn5 rMn6 rMn7 rMn8 (hJo 99) rMn10 o16.2 ++ wJo K hJo rJo6 hJk gJo5 sJo ++ wJk K hJk sJk ++ wRo K hRo sRo) := hD
    have e9 := Option.some.inj hf
    rw [hQ]
    exact W.iret (v := o16.1) hx hb hr (fun t ht hW => ⟨⟨o16.1, (o16.2, sJo, sJk), rfl, ⟨pr1 e9, pr2 e9⟩, ⟨by rw [ht]; exact hP, va_K.moved hW.alike hK, hD⟩⟩, hS.F ht⟩) hS.2.2 dX10_fill_68
  have hen : entryFrame m args 2 = entryFrame m (([.ref (hMn 99), .int p1] : List Value).toArray) 2 := by rw [hargs]
  have hl := lv_entry ([.ref (hMn 99), .int p1]) (n := 2) (Nat.le_of_ble_eq_true rfl)
  rw [hen, lg_entry_eq]
  generalize (lg_sl ([.ref (hMn 99), .int p1]) ++ List.replicate (2 - (lg_sl ([.ref (hMn 99), .int p1])).length) Slot.unset).toArray = ls at hl ⊢
  have hl : lv_has ls 2 [(0, .ref (hMn 99)), (1, .int p1)] := hl
  unfold f_X10_fill at hf
  obtain ⟨H, hHe⟩ : ∃ z, z = s.heap := ⟨_, rfl⟩
  obtain ⟨locs, hLe⟩ : ∃ z : List Loc, z = [] := ⟨_, rfl⟩
  rw [← hLe]
  have hS : va_S A s.heap H locs := by rw [hHe, hLe]; exact hS
  have hP : va_P D vwCl (wMn K hMn rMn0 (hRo 99) rMn3 rMn4 rMn5 rMn6 rMn7 rMn8 (hJo 99) rMn10 sMn ++ wJo K hJo rJo6 hJk gJo5 sJo ++ wJk K hJk sJk ++ wRo K hRo sRo) H := by rw [hHe]; exact hP
  have hgo : W p l e (headSpec wz_X10_fill r_X10_fill).room s m args below meth c H locs 0 0 Q (F0 m 0 ls []) := by
    refine lv_aload_n hx hb dX10_fill_0 rfl (lv_at hl 0 rfl) ?_
    refine va_get (D := D) (ci := 9) (v := .ref (hRo 99)) (C := RX10) (T := TX10) (N := 14) hx hb hts iX10 hown hK hP 0 (rwl (rwl (rwl o_Mn))) rfl 2 (by decide) (htl _ (mB1 _ (List.mem_of_getElem? (i := 18) rfl))) (fun _ h9 => h9) rfl dX10_fill_1 ?_
    obtain ⟨o1, go1, hf⟩ := bd_s hf
    refine ro_Vi (As := []) (rest := []) ⟨hx, hb, hml, hown, hts⟩ (c_X9_isTold l D K F hRo sRo o1 go1) (cwV 0 hts (gcV_X9_isTold (mB30 _ (List.mem_of_getElem? (i := 0) rfl))) rfl rfl rfl hdV_X9_isTold ⟨Nat.le_of_ble_eq_true rfl, Nat.le_of_ble_eq_true rfl⟩) hK hP hS (va_PL (cs := [wMn K hMn rMn0 (hRo 99) rMn3 rMn4 rMn5 rMn6 rMn7 rMn8 (hJo 99) rMn10 sMn, wJo K hJo rJo6 hJk gJo5 sJo, wJk K hJk sJk, wRo K hRo sRo]) (cc := [wRo K hRo sRo]) hP (fl4 _ _ _ _) [3] rfl (fl1 _)) (va_recv hK hP (ci := 8) (q0 := (((1 + 4) + 12) + 0)) rfl (rwr (lnA (lnA ln_Mn ln_Jo) ln_Jk) o_Ro)) rfl hl.1 rfl (Nat.le_of_ble_eq_true rfl) dX10_fill_4 ⟨Nat.zero_le _, Nat.zero_le _⟩ (fun H locs hP hS => ?_)
    refine lv_if_ne (tgt := 16) hx hb dX10_fill_7 (by decide) (fun c2 => ?_) (fun c2 => ?_)
    · have hf := it_f hf c2
      refine lv_aload_n hx hb dX10_fill_16 rfl (lv_at hl 0 rfl) ?_
      refine va_get (D := D) (ci := 9) (v := .ref (hJo 99)) (C := RX10) (T := TX10) (N := 14) hx hb hts iX10 hown hK hP 0 (rwl (rwl (rwl o_Mn))) rfl 9 (by decide) (htl _ (mB2 _ (List.mem_of_getElem? (i := 19) rfl))) (fun _ h9 => h9) rfl dX10_fill_17 ?_
      refine va_get (D := D) (ci := 3) (v := .ref (hJo 0)) (C := RX3) (T := TX3) (N := 7) hx hb hts iX3 hown hK hP (1 + 0) (rwl (rwl (rwr ln_Mn o_Jo))) rfl 0 (by decide) (htl _ (mB61 _ (List.mem_of_getElem? (i := 22) rfl))) (fun _ h9 => h9) rfl dX10_fill_20 ?_
      refine lv_iconst (v := (4 : Int32)) hx hb dX10_fill_23 (by decide) ?_
      obtain ⟨g3, hf⟩ := gd_s hf
      refine va_iald hx hb hK hP (1 + 1) 0 (f := sJo.2.2.1 0) (rwl (rwl (rwr ln_Mn a_Jo_0))) rfl (vpb_in g3) dX10_fill_24 ?_
      refine lv_topi (fun v4 ev4 => ?_)
      have hf := lz_s hf v4 ev4
      refine lv_bipush (v := (-2 : Int32)) hx hb dX10_fill_25 (by decide) ?_
      refine lv_icmp_ne (tgt := 37) hx hb dX10_fill_27 (by decide) (fun c5 => ?_) (fun c5 => ?_)
      · have hf := it_f hf c5
        refine lv_iload_n hx hb dX10_fill_37 rfl (lv_at hl 1 rfl) ?_
        refine lv_iconst (v := (1 : Int32)) hx hb dX10_fill_38 (by decide) ?_
        refine lv_icmp_lt (tgt := 63) hx hb dX10_fill_39 (by decide) (fun c6 => ?_) (fun c6 => ?_)
        · have hf := it_t hf c6
          exact w63 sMn sJo sJk H locs ls hf hP hD hS (lv_sub hl [0] rfl)
        · have hf := it_f hf c6
          refine lv_iload_n hx hb dX10_fill_42 rfl (lv_at hl 1 rfl) ?_
          refine lv_aload_n hx hb dX10_fill_43 rfl (lv_at hl 0 rfl) ?_
          refine va_get (D := D) (ci := 9) (v := .ref (hRo 99)) (C := RX10) (T := TX10) (N := 14) hx hb hts iX10 hown hK hP 0 (rwl (rwl (rwl o_Mn))) rfl 2 (by decide) (htl _ (mB1 _ (List.mem_of_getElem? (i := 18) rfl))) (fun _ h9 => h9) rfl dX10_fill_44 ?_
          refine va_get (D := D) (ci := 8) (v := .int (sRo.1 0)) (C := RX9) (T := TX9) (N := 19) hx hb hts iX9 hown hK hP (((1 + 4) + 12) + 0) (rwr (lnA (lnA ln_Mn ln_Jo) ln_Jk) o_Ro) rfl 0 (by decide) (htl _ (mB52 _ (List.mem_of_getElem? (i := 22) rfl))) (fun _ h9 => h9) rfl dX10_fill_47 ?_
          refine lv_aload_n hx hb dX10_fill_50 rfl (lv_at hl 0 rfl) ?_
          refine va_get (D := D) (ci := 9) (v := .ref (hJo 99)) (C := RX10) (T := TX10) (N := 14) hx hb hts iX10 hown hK hP 0 (rwl (rwl (rwl o_Mn))) rfl 9 (by decide) (htl _ (mB2 _ (List.mem_of_getElem? (i := 19) rfl))) (fun _ h9 => h9) rfl dX10_fill_51 ?_
          refine va_get (D := D) (ci := 3) (v := .ref (hJo 0)) (C := RX3) (T := TX3) (N := 7) hx hb hts iX3 hown hK hP (1 + 0) (rwl (rwl (rwr ln_Mn o_Jo))) rfl 0 (by decide) (htl _ (mB61 _ (List.mem_of_getElem? (i := 22) rfl))) (fun _ h9 => h9) rfl dX10_fill_54 ?_
          refine lv_iconst (v := (1 : Int32)) hx hb dX10_fill_57 (by decide) ?_
          obtain ⟨g7, hf⟩ := gd_s hf
          refine va_iald hx hb hK hP (1 + 1) 0 (f := sJo.2.2.1 0) (rwl (rwl (rwr ln_Mn a_Jo_0))) rfl (vpb_in g7) dX10_fill_58 ?_
          refine lv_topi (fun v8 ev8 => ?_)
          have hf := lz_s hf v8 ev8
          refine lv_isub hx hb dX10_fill_59 ?_
          refine lv_icmp_le (tgt := 69) hx hb dX10_fill_60 (by decide) (fun c9 => ?_) (fun c9 => ?_)
          · have hf := it_t hf c9
            refine lv_aload_n hx hb dX10_fill_69 rfl (lv_at hl 0 rfl) ?_
            refine va_get (D := D) (ci := 9) (v := .ref (hJo 99)) (C := RX10) (T := TX10) (N := 14) hx hb hts iX10 hown hK hP 0 (rwl (rwl (rwl o_Mn))) rfl 9 (by decide) (htl _ (mB2 _ (List.mem_of_getElem? (i := 19) rfl))) (fun _ h9 => h9) rfl dX10_fill_70 ?_
            refine lv_aload_n hx hb dX10_fill_73 rfl (lv_at hl 0 rfl) ?_
            refine va_get (D := D) (ci := 9) (v := .ref (hRo 99)) (C := RX10) (T := TX10) (N := 14) hx hb hts iX10 hown hK hP 0 (rwl (rwl (rwl o_Mn))) rfl 2 (by decide) (htl _ (mB1 _ (List.mem_of_getElem? (i := 18) rfl))) (fun _ h9 => h9) rfl dX10_fill_74 ?_
            refine lv_iload_n hx hb dX10_fill_77 rfl (lv_at hl 1 rfl) ?_
            obtain ⟨o10, go10, hf⟩ := bd_s hf
            refine rk_Vv (wn := wMn K hMn rMn0 (hRo 99) rMn3 rMn4 rMn5 rMn6 rMn7 rMn8 (hJo 99) rMn10 sMn ++ wJo K hJo rJo6 hJk gJo5 o10.1 ++ wJk K hJk o10.2 ++ wRo K hRo sRo) [wMn K hMn rMn0 (hRo 99) rMn3 rMn4 rMn5 rMn6 rMn7 rMn8 (hJo 99) rMn10 sMn, wJo K hJo rJo6 hJk gJo5 sJo, wJk K hJk sJk, wRo K hRo sRo] [wJo K hJo rJo6 hJk gJo5 sJo, wJk K hJk sJk, wRo K hRo sRo] [wJo K hJo rJo6 hJk gJo5 o10.1, wJk K hJk o10.2, wRo K hRo sRo] [wMn K hMn rMn0 (hRo 99) rMn3 rMn4 rMn5 rMn6 rMn7 rMn8 (hJo 99) rMn10 sMn, wJo K hJo rJo6 hJk gJo5 o10.1, wJk K hJk o10.2, wRo K hRo sRo] (As := [.ref (hRo 99), .int p1]) (rest := []) ⟨hx, hb, hml, hown, hts⟩ (c_X3_takeIn l D K F hJo rJo6 gJo5 hJk hRo H.size sJo sJk sRo p1 o10 go10) (cwV 2 hts (gcV_X3_takeIn (mB62 _ (List.mem_of_getElem? (i := 7) rfl))) rfl rfl rfl hdV_X3_takeIn ⟨Nat.le_of_ble_eq_true rfl, Nat.le_of_ble_eq_true rfl⟩) hK hP hD hS hA [1, 2, 3] (fl4 _ _ _ _) rfl (by decide) (fl3 _ _ _) (fl3 _ _ _) rfl rfl (fl4 _ _ _ _) (va_recv hK hP (ci := 3) (q0 := (1 + 0)) rfl (rwl (rwl (rwr ln_Mn o_Jo)))) rfl hl.1 rfl (Nat.le_of_ble_eq_true rfl) dX10_fill_78 ⟨Nat.zero_le _, Nat.zero_le _⟩ (fun H locs hP hD hS => ?_)
            have hP : va_P D vwCl (wMn K hMn rMn0 (hRo 99) rMn3 rMn4 rMn5 rMn6 rMn7 rMn8 (hJo 99) rMn10 sMn ++ wJo K hJo rJo6 hJk gJo5 o10.1 ++ wJk K hJk o10.2 ++ wRo K hRo sRo) H := hP
            have hD : va_D A (wMn K hMn rMn0 (hRo 99) rMn3 rMn4 rMn5 rMn6 rMn7 rMn8 (hJo 99) rMn10 sMn ++ wJo K hJo rJo6 hJk gJo5 o10.1 ++ wJk K hJk o10.2 ++ wRo K hRo sRo) := hD
            refine lv_aload_n hx hb dX10_fill_81 rfl (lv_at hl 0 rfl) ?_
            refine lv_aload_n hx hb dX10_fill_82 rfl (lv_at hl 0 rfl) ?_
            refine va_get (D := D) (ci := 9) (v := .ref (hJo 99)) (C := RX10) (T := TX10) (N := 14) hx hb hts iX10 hown hK hP 0 (rwl (rwl (rwl o_Mn))) rfl 9 (by decide) (htl _ (mB2 _ (List.mem_of_getElem? (i := 19) rfl))) (fun _ h9 => h9) rfl dX10_fill_83 ?_
            refine va_get (D := D) (ci := 3) (v := .ref (hJo 0)) (C := RX3) (T := TX3) (N := 7) hx hb hts iX3 hown hK hP (1 + 0) (rwl (rwl (rwr ln_Mn o_Jo))) rfl 0 (by decide) (htl _ (mB61 _ (List.mem_of_getElem? (i := 22) rfl))) (fun _ h9 => h9) rfl dX10_fill_86 ?_
            refine lv_iconst (v := (2 : Int32)) hx hb dX10_fill_89 (by decide) ?_
            obtain ⟨g11, hf⟩ := gd_s hf
            refine va_iald hx hb hK hP (1 + 1) 0 (f := o10.1.2.2.1 0) (rwl (rwl (rwr ln_Mn a_Jo_0))) rfl (vpb_in g11) dX10_fill_90 ?_
            refine lv_topi (fun v12 ev12 => ?_)
            have hf := lz_s hf v12 ev12
            obtain ⟨o13, go13, hf⟩ := bd_s hf
            refine rk_Vi (wn := wMn K hMn rMn0 (hRo 99) rMn3 rMn4 rMn5 rMn6 rMn7 rMn8 (hJo 99) rMn10 o13.2 ++ wJo K hJo rJo6 hJk gJo5 o10.1 ++ wJk K hJk o10.2 ++ wRo K hRo sRo) [wMn K hMn rMn0 (hRo 99) rMn3 rMn4 rMn5 rMn6 rMn7 rMn8 (hJo 99) rMn10 sMn, wJo K hJo rJo6 hJk gJo5 o10.1, wJk K hJk o10.2, wRo K hRo sRo] [wMn K hMn rMn0 (hRo 99) rMn3 rMn4 rMn5 rMn6 rMn7 rMn8 (hJo 99) rMn10 sMn] [wMn K hMn rMn0 (hRo 99) rMn3 rMn4 rMn5 rMn6 rMn7 rMn8 (hJo 99) rMn10 o13.2] [wMn K hMn rMn0 (hRo 99) rMn3 rMn4 rMn5 rMn6 rMn7 rMn8 (hJo 99) rMn10 o13.2, wJo K hJo rJo6 hJk gJo5 o10.1, wJk K hJk o10.2, wRo K hRo sRo] (As := [.int v12]) (rest := []) ⟨hx, hb, hml, hown, hts⟩ (c_X10_accept l D K F hMn rMn0 (hRo 99) rMn3 rMn4 rMn5 rMn6 rMn7 rMn8 (hJo 99) rMn10 H.size sMn v12 o13 go13) (cwV 1 hts (gcV_X10_accept (mB17 _ (List.mem_of_getElem? (i := 14) rfl))) rfl rfl rfl hdV_X10_accept ⟨Nat.le_of_ble_eq_true rfl, Nat.le_of_ble_eq_true rfl⟩) hK hP hD hS hA [0] (fl4 _ _ _ _) rfl (by decide) (fl1 _) (fl1 _) rfl rfl (fl4 _ _ _ _) (va_recv hK hP (ci := 9) (q0 := 0) rfl (rwl (rwl (rwl o_Mn)))) rfl hl.1 rfl (Nat.le_of_ble_eq_true rfl) dX10_fill_91 ⟨Nat.zero_le _, Nat.zero_le _⟩ (fun H locs hP hD hS => ?_)
            have hP : va_P D vwCl (wMn K hMn rMn0 (hRo 99) rMn3 rMn4 rMn5 rMn6 rMn7 rMn8 (hJo 99) rMn10 o13.2 ++ wJo K hJo rJo6 hJk gJo5 o10.1 ++ wJk K hJk o10.2 ++ wRo K hRo sRo) H := hP
            have hD : va_D A (wMn K hMn rMn0 (hRo 99) rMn3 rMn4 rMn5 rMn6 rMn7 rMn8 (hJo 99) rMn10 o13.2 ++ wJo K hJo rJo6 hJk gJo5 o10.1 ++ wJk K hJk o10.2 ++ wRo K hRo sRo) := hD
            have e9 := Option.some.inj hf
            rw [hQ]
            exact W.iret (v := o13.1) hx hb hr (fun t ht hW => ⟨⟨o13.1, (o13.2, o10.1, o10.2), rfl, ⟨pr1 e9, pr2 e9⟩, ⟨by rw [ht]; exact hP, va_K.moved hW.alike hK, hD⟩⟩, hS.F ht⟩) hS.2.2 dX10_fill_94
          · have hf := it_f hf c9
            exact w63 sMn sJo sJk H locs ls hf hP hD hS (lv_sub hl [0] rfl)
      · have hf := it_t hf c5
        refine lv_aload_n hx hb dX10_fill_30 rfl (lv_at hl 0 rfl) ?_
        refine lv_bipush (v := (6 : Int32)) hx hb dX10_fill_31 (by decide) ?_
        obtain ⟨o14, go14, hf⟩ := bd_s hf
        refine rk_Vi (wn := wMn K hMn rMn0 (hRo 99) rMn3 rMn4 rMn5 rMn6 rMn7 rMn8 (hJo 99) rMn10 o14.2 ++ wJo K hJo rJo6 hJk gJo5 sJo ++ wJk K hJk sJk ++ wRo K hRo sRo) [wMn K hMn rMn0 (hRo 99) rMn3 rMn4 rMn5 rMn6 rMn7 rMn8 (hJo 99) rMn10 sMn, wJo K hJo rJo6 hJk gJo5 sJo, wJk K hJk sJk, wRo K hRo sRo] [wMn K hMn rMn0 (hRo 99) rMn3 rMn4 rMn5 rMn6 rMn7 rMn8 (hJo 99) rMn10 sMn] [wMn K hMn rMn0 (hRo 99) rMn3 rMn4 rMn5 rMn6 rMn7 rMn8 (hJo 99) rMn10 o14.2] [wMn K hMn rMn0 (hRo 99) rMn3 rMn4 rMn5 rMn6 rMn7 rMn8 (hJo 99) rMn10 o14.2, wJo K hJo rJo6 hJk gJo5 sJo, wJk K hJk sJk, wRo K hRo sRo] (As := [.int (6 : Int32)]) (rest := []) ⟨hx, hb, hml, hown, hts⟩ (c_X10_refuse l D K F hMn rMn0 (hRo 99) rMn3 rMn4 rMn5 rMn6 rMn7 rMn8 (hJo 99) rMn10 H.size sMn (6 : Int32) o14 go14) (cwV 1 hts (gcV_X10_refuse (mB7 _ (List.mem_of_getElem? (i := 18) rfl))) rfl rfl rfl hdV_X10_refuse ⟨Nat.le_of_ble_eq_true rfl, Nat.le_of_ble_eq_true rfl⟩) hK hP hD hS hA [0] (fl4 _ _ _ _) rfl (by decide) (fl1 _) (fl1 _) rfl rfl (fl4 _ _ _ _) (va_recv hK hP (ci := 9) (q0 := 0) rfl (rwl (rwl (rwl o_Mn)))) rfl hl.1 rfl (Nat.le_of_ble_eq_true rfl) dX10_fill_33 ⟨Nat.zero_le _, Nat.zero_le _⟩ (fun H locs hP hD hS => ?_)
        have hP : va_P D vwCl (wMn K hMn rMn0 (hRo 99) rMn3 rMn4 rMn5 rMn6 rMn7 rMn8 (hJo 99) rMn10 o14.2 ++ wJo K hJo rJo6 hJk gJo5 sJo ++ wJk K hJk sJk ++ wRo K hRo sRo) H := hP
        have hD : va_D A (wMn K hMn rMn0 (hRo 99) rMn3 rMn4 rMn5 rMn6 rMn7 rMn8 (hJo 99) rMn10 o14.2 ++ wJo K hJo rJo6 hJk gJo5 sJo ++ wJk K hJk sJk ++ wRo K hRo sRo) := hD
        have e9 := Option.some.inj hf
        rw [hQ]
        exact W.iret (v := o14.1) hx hb hr (fun t ht hW => ⟨⟨o14.1, (o14.2, sJo, sJk), rfl, ⟨pr1 e9, pr2 e9⟩, ⟨by rw [ht]; exact hP, va_K.moved hW.alike hK, hD⟩⟩, hS.F ht⟩) hS.2.2 dX10_fill_36
    · have hf := it_t hf c2
      refine lv_aload_n hx hb dX10_fill_10 rfl (lv_at hl 0 rfl) ?_
      refine lv_iconst (v := (1 : Int32)) hx hb dX10_fill_11 (by decide) ?_
      obtain ⟨o15, go15, hf⟩ := bd_s hf
      refine rk_Vi (wn := wMn K hMn rMn0 (hRo 99) rMn3 rMn4 rMn5 rMn6 rMn7 rMn8 (hJo 99) rMn10 o15.2 ++ wJo K hJo rJo6 hJk gJo5 sJo ++ wJk K hJk sJk ++ wRo K hRo sRo) [wMn K hMn rMn0 (hRo 99) rMn3 rMn4 rMn5 rMn6 rMn7 rMn8 (hJo 99) rMn10 sMn, wJo K hJo rJo6 hJk gJo5 sJo, wJk K hJk sJk, wRo K hRo sRo] [wMn K hMn rMn0 (hRo 99) rMn3 rMn4 rMn5 rMn6 rMn7 rMn8 (hJo 99) rMn10 sMn] [wMn K hMn rMn0 (hRo 99) rMn3 rMn4 rMn5 rMn6 rMn7 rMn8 (hJo 99) rMn10 o15.2] [wMn K hMn rMn0 (hRo 99) rMn3 rMn4 rMn5 rMn6 rMn7 rMn8 (hJo 99) rMn10 o15.2, wJo K hJo rJo6 hJk gJo5 sJo, wJk K hJk sJk, wRo K hRo sRo] (As := [.int (1 : Int32)]) (rest := []) ⟨hx, hb, hml, hown, hts⟩ (c_X10_refuse l D K F hMn rMn0 (hRo 99) rMn3 rMn4 rMn5 rMn6 rMn7 rMn8 (hJo 99) rMn10 H.size sMn (1 : Int32) o15 go15) (cwV 1 hts (gcV_X10_refuse (mB7 _ (List.mem_of_getElem? (i := 18) rfl))) rfl rfl rfl hdV_X10_refuse ⟨Nat.le_of_ble_eq_true rfl, Nat.le_of_ble_eq_true rfl⟩) hK hP hD hS hA [0] (fl4 _ _ _ _) rfl (by decide) (fl1 _) (fl1 _) rfl rfl (fl4 _ _ _ _) (va_recv hK hP (ci := 9) (q0 := 0) rfl (rwl (rwl (rwl o_Mn)))) rfl hl.1 rfl (Nat.le_of_ble_eq_true rfl) dX10_fill_12 ⟨Nat.zero_le _, Nat.zero_le _⟩ (fun H locs hP hD hS => ?_)
      have hP : va_P D vwCl (wMn K hMn rMn0 (hRo 99) rMn3 rMn4 rMn5 rMn6 rMn7 rMn8 (hJo 99) rMn10 o15.2 ++ wJo K hJo rJo6 hJk gJo5 sJo ++ wJk K hJk sJk ++ wRo K hRo sRo) H := hP
      have hD : va_D A (wMn K hMn rMn0 (hRo 99) rMn3 rMn4 rMn5 rMn6 rMn7 rMn8 (hJo 99) rMn10 o15.2 ++ wJo K hJo rJo6 hJk gJo5 sJo ++ wJk K hJk sJk ++ wRo K hRo sRo) := hD
      have e9 := Option.some.inj hf
      rw [hQ]
      exact W.iret (v := o15.1) hx hb hr (fun t ht hW => ⟨⟨o15.1, (o15.2, sJo, sJk), rfl, ⟨pr1 e9, pr2 e9⟩, ⟨by rw [ht]; exact hP, va_K.moved hW.alike hK, hD⟩⟩, hS.F ht⟩) hS.2.2 dX10_fill_15
  rw [hHe] at hgo
  exact hgo

theorem gcV_X3_goTo {T0 : Cond} {own : String} {i : Nat} (h : Cond.methodLink own i yX3_goTo ∈ wsL_law) : GoodIn (T0 :: wsL_law) (wsV own i RX3 yX3_goTo wz_X3_goTo) := gV h (mB63 _ (List.mem_of_getElem? (i := 15) rfl)) (mB63 _ (List.mem_of_getElem? (i := 16) rfl)) (mB2 _ (List.mem_of_getElem? (i := 18) rfl)) (mB63 _ (List.mem_of_getElem? (i := 17) rfl))
theorem hdV_X3_goTo : yX3_goTo.cls = RX3 ∧ yX3_goTo.cls ≠ "java/lang/invoke/MethodHandle" ∧ yX3_goTo.cls ≠ "java/lang/invoke/VarHandle" ∧ (parseMethodDescriptor yX3_goTo.desc).map (fun d => d.parameters.length) = some 2 := by decide +kernel
def wz_X10_drive : List Cond := .code yX10_drive cX10_drive 3 (some .int) :: wsL_law
abbrev r_X10_drive : Room := { frames := 4, cells := 0, slots := 0, locals := 87 }
set_option maxHeartbeats 4000000 in
set_option maxRecDepth 100000 in
theorem c_X10_drive (l : Launch) (D : va_G) (K : Nat → ClassId) (F : Nat) (hMn : Nat → Nat) (rMn0 : Nat) (rMn3 : Nat) (rMn4 : Nat) (rMn5 : Nat) (rMn6 : Nat) (rMn7 : Nat) (rMn8 : Nat) (rMn10 : Nat) (hJo : Nat → Nat) (gJo5 : Nat → Nat) (hJk : Nat → Nat) (hJw : Nat → Nat) (hRo : Nat → Nat) (sz : Nat) (sMn : MS) (sJo : MS) (sJk : MS) (sJw : MS) (sRo : MS) (p1 : Int32) (res : Int32 × MS × MS × MS × MS) (hf : f_X10_drive F sRo p1 sMn sJo sJk sJw = some res) : Met l yX10_drive wz_X10_drive r_X10_drive (va_Pc [.ref (hMn 99), .int p1] (PW D K (wMn K hMn rMn0 (hRo 99) rMn3 rMn4 rMn5 rMn6 rMn7 rMn8 (hJo 99) rMn10 sMn ++ wJo K hJo (hJw 99) hJk gJo5 sJo ++ wJk K hJk sJk ++ wDw K hJw sJw ++ wRo K hRo sRo) sz)) (va_Qi (fun r u => r = res.1 ∧ u = res.2) (fun u t => BW D K (va_A (wMn K hMn rMn0 (hRo 99) rMn3 rMn4 rMn5 rMn6 rMn7 rMn8 (hJo 99) rMn10 sMn ++ wJo K hJo (hJw 99) hJk gJo5 sJo ++ wJk K hJk sJk ++ wDw K hJw sJw ++ wRo K hRo sRo) sz) (wMn K hMn rMn0 (hRo 99) rMn3 rMn4 rMn5 rMn6 rMn7 rMn8 (hJo 99) rMn10 u.1 ++ wJo K hJo (hJw 99) hJk gJo5 u.2.1 ++ wJk K hJk u.2.2.1 ++ wDw K hJw u.2.2.2 ++ wRo K hRo sRo) t) (va_A (wMn K hMn rMn0 (hRo 99) rMn3 rMn4 rMn5 rMn6 rMn7 rMn8 (hJo 99) rMn10 sMn ++ wJo K hJo (hJw 99) hJk gJo5 sJo ++ wJk K hJk sJk ++ wDw K hJw sJw ++ wRo K hRo sRo) sz)) 0 0 (va_A (wMn K hMn rMn0 (hRo 99) rMn3 rMn4 rMn5 rMn6 rMn7 rMn8 (hJo 99) rMn10 sMn ++ wJo K hJo (hJw 99) hJk gJo5 sJo ++ wJk K hJk sJk ++ wDw K hJw sJw ++ wRo K hRo sRo) sz) := by
  refine Met.ofW (cc := cX10_drive) (maxL := 3) (ret := (some .int)) (by decide) rfl ?_
  intro p e s m args below meth c s₁ B hml hv
  obtain ⟨hargs, hsz, hP, hK, hD0⟩ := hv
  have hx := B.exec
  have hb := B.bytes
  have hr := B.returns
  have hts := atoms_spec (ws := wz_X10_drive) B.pre
  have htl : ∀ w ∈ wsL_law, w.before args s = true := fun w h => hts w (List.mem_cons_of_mem _ h)
  have hown : s.vm.findClass RX10 = some m.cls := findClass_of_methodNamed B.named
  have hlocks := B.notSynchronized
  subst hsz
  have hD := hD0.self (sz := s.heap.size)
  generalize hAe : va_A (wMn K hMn rMn0 (hRo 99) rMn3 rMn4 rMn5 rMn6 rMn7 rMn8 (hJo 99) rMn10 sMn ++ wJo K hJo (hJw 99) hJk gJo5 sJo ++ wJk K hJk sJk ++ wDw K hJw sJw ++ wRo K hRo sRo) s.heap.size = A at hD ⊢
  have hA : ∀ q : Nat, s.heap.size ≤ q → A q := fun q h => by rw [← hAe]; exact Or.inr h
  have hS : va_S A s.heap s.heap [] := va_S.rf
  have iX10 : ∀ w ∈ wsX100, w ∈ wz_X10_drive := fun w h => List.mem_cons_of_mem _ (inlX10 w h)
  have iX3 : ∀ w ∈ wsX30, w ∈ wz_X10_drive := fun w h => List.mem_cons_of_mem _ (inlX3 w h)
  suffices hgo : ∀ Q : State → Prop, Q = MQ below (va_Qi (fun r u => r = res.1 ∧ u = res.2) (fun u t => BW D K A (wMn K hMn rMn0 (hRo 99) rMn3 rMn4 rMn5 rMn6 rMn7 rMn8 (hJo 99) rMn10 u.1 ++ wJo K hJo (hJw 99) hJk gJo5 u.2.1 ++ wJk K hJk u.2.2.1 ++ wDw K hJw u.2.2.2 ++ wRo K hRo sRo) t) A) args s 0 0 A → W p l e (headSpec wz_X10_drive r_X10_drive).room s m args below meth c s.heap [] 0 0 Q (entryFrame m args 3) from hgo _ rfl
  intro Q hQ
  have hen : entryFrame m args 3 = entryFrame m (([.ref (hMn 99), .int p1] : List Value).toArray) 3 := by rw [hargs]
  have hl := lv_entry ([.ref (hMn 99), .int p1]) (n := 3) (Nat.le_of_ble_eq_true rfl)
  rw [hen, lg_entry_eq]
  generalize (lg_sl ([.ref (hMn 99), .int p1]) ++ List.replicate (3 - (lg_sl ([.ref (hMn 99), .int p1])).length) Slot.unset).toArray = ls at hl ⊢
  have hl : lv_has ls 3 [(0, .ref (hMn 99)), (1, .int p1)] := hl
  unfold f_X10_drive at hf
  obtain ⟨H, hHe⟩ : ∃ z, z = s.heap := ⟨_, rfl⟩
  obtain ⟨locs, hLe⟩ : ∃ z : List Loc, z = [] := ⟨_, rfl⟩
  rw [← hLe]
  have hS : va_S A s.heap H locs := by rw [hHe, hLe]; exact hS
  have hP : va_P D vwCl (wMn K hMn rMn0 (hRo 99) rMn3 rMn4 rMn5 rMn6 rMn7 rMn8 (hJo 99) rMn10 sMn ++ wJo K hJo (hJw 99) hJk gJo5 sJo ++ wJk K hJk sJk ++ wDw K hJw sJw ++ wRo K hRo sRo) H := by rw [hHe]; exact hP
  have hgo : W p l e (headSpec wz_X10_drive r_X10_drive).room s m args below meth c H locs 0 0 Q (F0 m 0 ls []) := by
    refine lv_aload_n hx hb dX10_drive_0 rfl (lv_at hl 0 rfl) ?_
    refine va_get (D := D) (ci := 9) (v := .ref (hJo 99)) (C := RX10) (T := TX10) (N := 14) hx hb hts iX10 hown hK hP 0 (rwl (rwl (rwl (rwl o_Mn)))) rfl 9 (by decide) (htl _ (mB2 _ (List.mem_of_getElem? (i := 19) rfl))) (fun _ h9 => h9) rfl dX10_drive_1 ?_
    refine va_get (D := D) (ci := 3) (v := .ref (hJo 0)) (C := RX3) (T := TX3) (N := 7) hx hb hts iX3 hown hK hP (1 + 0) (rwl (rwl (rwl (rwr ln_Mn o_Jo)))) rfl 0 (by decide) (htl _ (mB61 _ (List.mem_of_getElem? (i := 22) rfl))) (fun _ h9 => h9) rfl dX10_drive_4 ?_
    refine lv_iconst (v := (0 : Int32)) hx hb dX10_drive_7 (by decide) ?_
    obtain ⟨g1, hf⟩ := gd_s hf
    refine va_iald hx hb hK hP (1 + 1) 0 (f := sJo.2.2.1 0) (rwl (rwl (rwl (rwr ln_Mn a_Jo_0)))) rfl (vpb_in g1) dX10_drive_8 ?_
    refine lv_topi (fun v2 ev2 => ?_)
    have hf := lz_s hf v2 ev2
    refine lv_istore_n (lv' := [(2, .int v2), (0, .ref (hMn 99)), (1, .int p1)]) hx hb dX10_drive_9 rfl hl (by decide) rfl (fun ls hl => ?_)
    refine lv_aload_n hx hb dX10_drive_10 rfl (lv_at hl 1 rfl) ?_
    refine lv_iload_n hx hb dX10_drive_11 rfl (lv_at hl 0 rfl) ?_
    refine lv_iload_n hx hb dX10_drive_12 rfl (lv_at hl 2 rfl) ?_
    obtain ⟨o3, go3, hf⟩ := bd_s hf
    refine ro_Vi (As := [.int v2, .int p1]) (rest := []) ⟨hx, hb, hml, hown, hts⟩ (c_X10_areTwoPlaces l D K F hMn rMn0 rMn3 rMn4 rMn5 rMn6 rMn7 rMn8 (hJo 99) rMn10 hRo sMn sRo v2 p1 o3 go3) (cwV 2 hts (gcV_X10_areTwoPlaces (mB24 _ (List.mem_of_getElem? (i := 13) rfl))) rfl rfl rfl hdV_X10_areTwoPlaces ⟨Nat.le_of_ble_eq_true rfl, Nat.le_of_ble_eq_true rfl⟩) hK hP hS (va_PL (cs := [wMn K hMn rMn0 (hRo 99) rMn3 rMn4 rMn5 rMn6 rMn7 rMn8 (hJo 99) rMn10 sMn, wJo K hJo (hJw 99) hJk gJo5 sJo, wJk K hJk sJk, wDw K hJw sJw, wRo K hRo sRo]) (cc := [wMn K hMn rMn0 (hRo 99) rMn3 rMn4 rMn5 rMn6 rMn7 rMn8 (hJo 99) rMn10 sMn, wRo K hRo sRo]) hP (fl5 _ _ _ _ _) [0, 4] rfl (fl2 _ _)) (va_recv hK hP (ci := 9) (q0 := 0) rfl (rwl (rwl (rwl (rwl o_Mn))))) rfl hl.1 rfl (Nat.le_of_ble_eq_true rfl) dX10_drive_13 ⟨Nat.zero_le _, Nat.zero_le _⟩ (fun H locs hP hS => ?_)
    refine lv_if_ne (tgt := 25) hx hb dX10_drive_16 (by decide) (fun c4 => ?_) (fun c4 => ?_)
    · have hf := it_f hf c4
      refine lv_aload_n hx hb dX10_drive_25 rfl (lv_at hl 1 rfl) ?_
      refine va_get (D := D) (ci := 9) (v := .ref (hRo 99)) (C := RX10) (T := TX10) (N := 14) hx hb hts iX10 hown hK hP 0 (rwl (rwl (rwl (rwl o_Mn)))) rfl 2 (by decide) (htl _ (mB1 _ (List.mem_of_getElem? (i := 18) rfl))) (fun _ h9 => h9) rfl dX10_drive_26 ?_
      refine lv_iload_n hx hb dX10_drive_29 rfl (lv_at hl 0 rfl) ?_
      refine lv_iload_n hx hb dX10_drive_30 rfl (lv_at hl 2 rfl) ?_
      obtain ⟨o5, go5, hf⟩ := bd_s hf
      refine ro_Vi (As := [.int v2, .int p1]) (rest := []) ⟨hx, hb, hml, hown, hts⟩ (c_X9_isRoad l D K F hRo sRo v2 p1 o5 go5) (cwV 2 hts (gcV_X9_isRoad (mB24 _ (List.mem_of_getElem? (i := 21) rfl))) rfl rfl rfl hdV_X9_isRoad ⟨Nat.le_of_ble_eq_true rfl, Nat.le_of_ble_eq_true rfl⟩) hK hP hS (va_PL (cs := [wMn K hMn rMn0 (hRo 99) rMn3 rMn4 rMn5 rMn6 rMn7 rMn8 (hJo 99) rMn10 sMn, wJo K hJo (hJw 99) hJk gJo5 sJo, wJk K hJk sJk, wDw K hJw sJw, wRo K hRo sRo]) (cc := [wRo K hRo sRo]) hP (fl5 _ _ _ _ _) [4] rfl (fl1 _)) (va_recv hK hP (ci := 8) (q0 := ((((1 + 4) + 12) + 1) + 0)) rfl (rwr (lnA (lnA (lnA ln_Mn ln_Jo) ln_Jk) ln_Dw) o_Ro)) rfl hl.1 rfl (Nat.le_of_ble_eq_true rfl) dX10_drive_31 ⟨Nat.zero_le _, Nat.zero_le _⟩ (fun H locs hP hS => ?_)
      refine lv_if_ne (tgt := 44) hx hb dX10_drive_34 (by decide) (fun c6 => ?_) (fun c6 => ?_)
      · have hf := it_f hf c6
        refine lv_aload_n hx hb dX10_drive_44 rfl (lv_at hl 1 rfl) ?_
        refine va_get (D := D) (ci := 9) (v := .ref (hJo 99)) (C := RX10) (T := TX10) (N := 14) hx hb hts iX10 hown hK hP 0 (rwl (rwl (rwl (rwl o_Mn)))) rfl 9 (by decide) (htl _ (mB2 _ (List.mem_of_getElem? (i := 19) rfl))) (fun _ h9 => h9) rfl dX10_drive_45 ?_
        refine lv_aload_n hx hb dX10_drive_48 rfl (lv_at hl 1 rfl) ?_
        refine va_get (D := D) (ci := 9) (v := .ref (hRo 99)) (C := RX10) (T := TX10) (N := 14) hx hb hts iX10 hown hK hP 0 (rwl (rwl (rwl (rwl o_Mn)))) rfl 2 (by decide) (htl _ (mB1 _ (List.mem_of_getElem? (i := 18) rfl))) (fun _ h9 => h9) rfl dX10_drive_49 ?_
        refine lv_iload_n hx hb dX10_drive_52 rfl (lv_at hl 2 rfl) ?_
        obtain ⟨o7, go7, hf⟩ := bd_s hf
        refine ro_Vi (As := [.ref (hRo 99), .int p1]) (rest := []) ⟨hx, hb, hml, hown, hts⟩ (c_X3_canGo l D K F hJo (hJw 99) hJk gJo5 hRo sJo sRo p1 o7 go7) (cwV 2 hts (gcV_X3_canGo (mB63 _ (List.mem_of_getElem? (i := 8) rfl))) rfl rfl rfl hdV_X3_canGo ⟨Nat.le_of_ble_eq_true rfl, Nat.le_of_ble_eq_true rfl⟩) hK hP hS (va_PL (cs := [wMn K hMn rMn0 (hRo 99) rMn3 rMn4 rMn5 rMn6 rMn7 rMn8 (hJo 99) rMn10 sMn, wJo K hJo (hJw 99) hJk gJo5 sJo, wJk K hJk sJk, wDw K hJw sJw, wRo K hRo sRo]) (cc := [wJo K hJo (hJw 99) hJk gJo5 sJo, wRo K hRo sRo]) hP (fl5 _ _ _ _ _) [1, 4] rfl (fl2 _ _)) (va_recv hK hP (ci := 3) (q0 := (1 + 0)) rfl (rwl (rwl (rwl (rwr ln_Mn o_Jo))))) rfl hl.1 rfl (Nat.le_of_ble_eq_true rfl) dX10_drive_53 ⟨Nat.zero_le _, Nat.zero_le _⟩ (fun H locs hP hS => ?_)
        refine lv_if_ne (tgt := 65) hx hb dX10_drive_56 (by decide) (fun c8 => ?_) (fun c8 => ?_)
        · have hf := it_f hf c8
          refine lv_aload_n hx hb dX10_drive_65 rfl (lv_at hl 1 rfl) ?_
          refine va_get (D := D) (ci := 9) (v := .ref (hJo 99)) (C := RX10) (T := TX10) (N := 14) hx hb hts iX10 hown hK hP 0 (rwl (rwl (rwl (rwl o_Mn)))) rfl 9 (by decide) (htl _ (mB2 _ (List.mem_of_getElem? (i := 19) rfl))) (fun _ h9 => h9) rfl dX10_drive_66 ?_
          refine lv_aload_n hx hb dX10_drive_69 rfl (lv_at hl 1 rfl) ?_
          refine va_get (D := D) (ci := 9) (v := .ref (hRo 99)) (C := RX10) (T := TX10) (N := 14) hx hb hts iX10 hown hK hP 0 (rwl (rwl (rwl (rwl o_Mn)))) rfl 2 (by decide) (htl _ (mB1 _ (List.mem_of_getElem? (i := 18) rfl))) (fun _ h9 => h9) rfl dX10_drive_70 ?_
          refine lv_iload_n hx hb dX10_drive_73 rfl (lv_at hl 2 rfl) ?_
          obtain ⟨o9, go9, hf⟩ := bd_s hf
          refine rk_Vv (wn := wMn K hMn rMn0 (hRo 99) rMn3 rMn4 rMn5 rMn6 rMn7 rMn8 (hJo 99) rMn10 sMn ++ wJo K hJo (hJw 99) hJk gJo5 o9.2.1 ++ wJk K hJk o9.2.2 ++ wDw K hJw o9.1 ++ wRo K hRo sRo) [wMn K hMn rMn0 (hRo 99) rMn3 rMn4 rMn5 rMn6 rMn7 rMn8 (hJo 99) rMn10 sMn, wJo K hJo (hJw 99) hJk gJo5 sJo, wJk K hJk sJk, wDw K hJw sJw, wRo K hRo sRo] [wDw K hJw sJw, wJo K hJo (hJw 99) hJk gJo5 sJo, wJk K hJk sJk, wRo K hRo sRo] [wDw K hJw o9.1, wJo K hJo (hJw 99) hJk gJo5 o9.2.1, wJk K hJk o9.2.2, wRo K hRo sRo] [wMn K hMn rMn0 (hRo 99) rMn3 rMn4 rMn5 rMn6 rMn7 rMn8 (hJo 99) rMn10 sMn, wJo K hJo (hJw 99) hJk gJo5 o9.2.1, wJk K hJk o9.2.2, wDw K hJw o9.1, wRo K hRo sRo] (As := [.ref (hRo 99), .int p1]) (rest := []) ⟨hx, hb, hml, hown, hts⟩ (c_X3_goTo l D K F hJw hJo gJo5 hJk hRo H.size sJw sJo sJk sRo p1 o9 go9) (cwV 2 hts (gcV_X3_goTo (mB63 _ (List.mem_of_getElem? (i := 14) rfl))) rfl rfl rfl hdV_X3_goTo ⟨Nat.le_of_ble_eq_true rfl, Nat.le_of_ble_eq_true rfl⟩) hK hP hD hS hA [3, 1, 2, 4] (fl5 _ _ _ _ _) rfl (by decide) (fl4 _ _ _ _) (fl4 _ _ _ _) rfl rfl (fl5 _ _ _ _ _) (va_recv hK hP (ci := 3) (q0 := (1 + 0)) rfl (rwl (rwl (rwl (rwr ln_Mn o_Jo))))) rfl hl.1 rfl (Nat.le_of_ble_eq_true rfl) dX10_drive_74 ⟨Nat.zero_le _, Nat.zero_le _⟩ (fun H locs hP hD hS => ?_)
          have hP : va_P D vwCl (wMn K hMn rMn0 (hRo 99) rMn3 rMn4 rMn5 rMn6 rMn7 rMn8 (hJo 99) rMn10 sMn ++ wJo K hJo (hJw 99) hJk gJo5 o9.2.1 ++ wJk K hJk o9.2.2 ++ wDw K hJw o9.1 ++ wRo K hRo sRo) H := hP
          have hD : va_D A (wMn K hMn rMn0 (hRo 99) rMn3 rMn4 rMn5 rMn6 rMn7 rMn8 (hJo 99) rMn10 sMn ++ wJo K hJo (hJw 99) hJk gJo5 o9.2.1 ++ wJk K hJk o9.2.2 ++ wDw K hJw o9.1 ++ wRo K hRo sRo) := hD
          refine lv_aload_n hx hb dX10_drive_77 rfl (lv_at hl 1 rfl) ?_
          refine lv_aload_n hx hb dX10_drive_78 rfl (lv_at hl 1 rfl) ?_
          refine va_get (D := D) (ci := 9) (v := .ref (hJo 99)) (C := RX10) (T := TX10) (N := 14) hx hb hts iX10 hown hK hP 0 (rwl (rwl (rwl (rwl o_Mn)))) rfl 9 (by decide) (htl _ (mB2 _ (List.mem_of_getElem? (i := 19) rfl))) (fun _ h9 => h9) rfl dX10_drive_79 ?_
          refine va_get (D := D) (ci := 3) (v := .ref (hJo 0)) (C := RX3) (T := TX3) (N := 7) hx hb hts iX3 hown hK hP (1 + 0) (rwl (rwl (rwl (rwr ln_Mn o_Jo)))) rfl 0 (by decide) (htl _ (mB61 _ (List.mem_of_getElem? (i := 22) rfl))) (fun _ h9 => h9) rfl dX10_drive_82 ?_
          refine lv_iconst (v := (1 : Int32)) hx hb dX10_drive_85 (by decide) ?_
          obtain ⟨g10, hf⟩ := gd_s hf
          refine va_iald hx hb hK hP (1 + 1) 0 (f := o9.2.1.2.2.1 0) (rwl (rwl (rwl (rwr ln_Mn a_Jo_0)))) rfl (vpb_in g10) dX10_drive_86 ?_
          refine lv_topi (fun v11 ev11 => ?_)
          have hf := lz_s hf v11 ev11
          obtain ⟨o12, go12, hf⟩ := bd_s hf
          refine rk_Vi (wn := wMn K hMn rMn0 (hRo 99) rMn3 rMn4 rMn5 rMn6 rMn7 rMn8 (hJo 99) rMn10 o12.2 ++ wJo K hJo (hJw 99) hJk gJo5 o9.2.1 ++ wJk K hJk o9.2.2 ++ wDw K hJw o9.1 ++ wRo K hRo sRo) [wMn K hMn rMn0 (hRo 99) rMn3 rMn4 rMn5 rMn6 rMn7 rMn8 (hJo 99) rMn10 sMn, wJo K hJo (hJw 99) hJk gJo5 o9.2.1, wJk K hJk o9.2.2, wDw K hJw o9.1, wRo K hRo sRo] [wMn K hMn rMn0 (hRo 99) rMn3 rMn4 rMn5 rMn6 rMn7 rMn8 (hJo 99) rMn10 sMn] [wMn K hMn rMn0 (hRo 99) rMn3 rMn4 rMn5 rMn6 rMn7 rMn8 (hJo 99) rMn10 o12.2] [wMn K hMn rMn0 (hRo 99) rMn3 rMn4 rMn5 rMn6 rMn7 rMn8 (hJo 99) rMn10 o12.2, wJo K hJo (hJw 99) hJk gJo5 o9.2.1, wJk K hJk o9.2.2, wDw K hJw o9.1, wRo K hRo sRo] (As := [.int v11]) (rest := []) ⟨hx, hb, hml, hown, hts⟩ (c_X10_accept l D K F hMn rMn0 (hRo 99) rMn3 rMn4 rMn5 rMn6 rMn7 rMn8 (hJo 99) rMn10 H.size sMn v11 o12 go12) (cwV 1 hts (gcV_X10_accept (mB17 _ (List.mem_of_getElem? (i := 14) rfl))) rfl rfl rfl hdV_X10_accept ⟨Nat.le_of_ble_eq_true rfl, Nat.le_of_ble_eq_true rfl⟩) hK hP hD hS hA [0] (fl5 _ _ _ _ _) rfl (by decide) (fl1 _) (fl1 _) rfl rfl (fl5 _ _ _ _ _) (va_recv hK hP (ci := 9) (q0 := 0) rfl (rwl (rwl (rwl (rwl o_Mn))))) rfl hl.1 rfl (Nat.le_of_ble_eq_true rfl) dX10_drive_87 ⟨Nat.zero_le _, Nat.zero_le _⟩ (fun H locs hP hD hS => ?_)
          have hP : va_P D vwCl (wMn K hMn rMn0 (hRo 99) rMn3 rMn4 rMn5 rMn6 rMn7 rMn8 (hJo 99) rMn10 o12.2 ++ wJo K hJo (hJw 99) hJk gJo5 o9.2.1 ++ wJk K hJk o9.2.2 ++ wDw K hJw o9.1 ++ wRo K hRo sRo) H := hP
          have hD : va_D A (wMn K hMn rMn0 (hRo 99) rMn3 rMn4 rMn5 rMn6 rMn7 rMn8 (hJo 99) rMn10 o12.2 ++ wJo K hJo (hJw 99) hJk gJo5 o9.2.1 ++ wJk K hJk o9.2.2 ++ wDw K hJw o9.1 ++ wRo K hRo sRo) := hD
          have e9 := Option.some.inj hf
          rw [hQ]
          exact W.iret (v := o12.1) hx hb hr (fun t ht hW => ⟨⟨o12.1, (o12.2, o9.2.1, o9.2.2, o9.1), rfl, ⟨pr1 e9, pr2 e9⟩, ⟨by rw [ht]; exact hP, va_K.moved hW.alike hK, hD⟩⟩, hS.F ht⟩) hS.2.2 dX10_drive_90
        · have hf := it_t hf c8
          refine lv_aload_n hx hb dX10_drive_59 rfl (lv_at hl 1 rfl) ?_
          refine lv_iconst (v := (5 : Int32)) hx hb dX10_drive_60 (by decide) ?_
          obtain ⟨o13, go13, hf⟩ := bd_s hf
          refine rk_Vi (wn := wMn K hMn rMn0 (hRo 99) rMn3 rMn4 rMn5 rMn6 rMn7 rMn8 (hJo 99) rMn10 o13.2 ++ wJo K hJo (hJw 99) hJk gJo5 sJo ++ wJk K hJk sJk ++ wDw K hJw sJw ++ wRo K hRo sRo) [wMn K hMn rMn0 (hRo 99) rMn3 rMn4 rMn5 rMn6 rMn7 rMn8 (hJo 99) rMn10 sMn, wJo K hJo (hJw 99) hJk gJo5 sJo, wJk K hJk sJk, wDw K hJw sJw, wRo K hRo sRo] [wMn K hMn rMn0 (hRo 99) rMn3 rMn4 rMn5 rMn6 rMn7 rMn8 (hJo 99) rMn10 sMn] [wMn K hMn rMn0 (hRo 99) rMn3 rMn4 rMn5 rMn6 rMn7 rMn8 (hJo 99) rMn10 o13.2] [wMn K hMn rMn0 (hRo 99) rMn3 rMn4 rMn5 rMn6 rMn7 rMn8 (hJo 99) rMn10 o13.2, wJo K hJo (hJw 99) hJk gJo5 sJo, wJk K hJk sJk, wDw K hJw sJw, wRo K hRo sRo] (As := [.int (5 : Int32)]) (rest := []) ⟨hx, hb, hml, hown, hts⟩ (c_X10_refuse l D K F hMn rMn0 (hRo 99) rMn3 rMn4 rMn5 rMn6 rMn7 rMn8 (hJo 99) rMn10 H.size sMn (5 : Int32) o13 go13) (cwV 1 hts (gcV_X10_refuse (mB7 _ (List.mem_of_getElem? (i := 18) rfl))) rfl rfl rfl hdV_X10_refuse ⟨Nat.le_of_ble_eq_true rfl, Nat.le_of_ble_eq_true rfl⟩) hK hP hD hS hA [0] (fl5 _ _ _ _ _) rfl (by decide) (fl1 _) (fl1 _) rfl rfl (fl5 _ _ _ _ _) (va_recv hK hP (ci := 9) (q0 := 0) rfl (rwl (rwl (rwl (rwl o_Mn))))) rfl hl.1 rfl (Nat.le_of_ble_eq_true rfl) dX10_drive_61 ⟨Nat.zero_le _, Nat.zero_le _⟩ (fun H locs hP hD hS => ?_)
          have hP : va_P D vwCl (wMn K hMn rMn0 (hRo 99) rMn3 rMn4 rMn5 rMn6 rMn7 rMn8 (hJo 99) rMn10 o13.2 ++ wJo K hJo (hJw 99) hJk gJo5 sJo ++ wJk K hJk sJk ++ wDw K hJw sJw ++ wRo K hRo sRo) H := hP
          have hD : va_D A (wMn K hMn rMn0 (hRo 99) rMn3 rMn4 rMn5 rMn6 rMn7 rMn8 (hJo 99) rMn10 o13.2 ++ wJo K hJo (hJw 99) hJk gJo5 sJo ++ wJk K hJk sJk ++ wDw K hJw sJw ++ wRo K hRo sRo) := hD
          have e9 := Option.some.inj hf
          rw [hQ]
          exact W.iret (v := o13.1) hx hb hr (fun t ht hW => ⟨⟨o13.1, (o13.2, sJo, sJk, sJw), rfl, ⟨pr1 e9, pr2 e9⟩, ⟨by rw [ht]; exact hP, va_K.moved hW.alike hK, hD⟩⟩, hS.F ht⟩) hS.2.2 dX10_drive_64
      · have hf := it_t hf c6
        refine lv_aload_n hx hb dX10_drive_37 rfl (lv_at hl 1 rfl) ?_
        refine lv_bipush (v := (6 : Int32)) hx hb dX10_drive_38 (by decide) ?_
        obtain ⟨o14, go14, hf⟩ := bd_s hf
        refine rk_Vi (wn := wMn K hMn rMn0 (hRo 99) rMn3 rMn4 rMn5 rMn6 rMn7 rMn8 (hJo 99) rMn10 o14.2 ++ wJo K hJo (hJw 99) hJk gJo5 sJo ++ wJk K hJk sJk ++ wDw K hJw sJw ++ wRo K hRo sRo) [wMn K hMn rMn0 (hRo 99) rMn3 rMn4 rMn5 rMn6 rMn7 rMn8 (hJo 99) rMn10 sMn, wJo K hJo (hJw 99) hJk gJo5 sJo, wJk K hJk sJk, wDw K hJw sJw, wRo K hRo sRo] [wMn K hMn rMn0 (hRo 99) rMn3 rMn4 rMn5 rMn6 rMn7 rMn8 (hJo 99) rMn10 sMn] [wMn K hMn rMn0 (hRo 99) rMn3 rMn4 rMn5 rMn6 rMn7 rMn8 (hJo 99) rMn10 o14.2] [wMn K hMn rMn0 (hRo 99) rMn3 rMn4 rMn5 rMn6 rMn7 rMn8 (hJo 99) rMn10 o14.2, wJo K hJo (hJw 99) hJk gJo5 sJo, wJk K hJk sJk, wDw K hJw sJw, wRo K hRo sRo] (As := [.int (6 : Int32)]) (rest := []) ⟨hx, hb, hml, hown, hts⟩ (c_X10_refuse l D K F hMn rMn0 (hRo 99) rMn3 rMn4 rMn5 rMn6 rMn7 rMn8 (hJo 99) rMn10 H.size sMn (6 : Int32) o14 go14) (cwV 1 hts (gcV_X10_refuse (mB7 _ (List.mem_of_getElem? (i := 18) rfl))) rfl rfl rfl hdV_X10_refuse ⟨Nat.le_of_ble_eq_true rfl, Nat.le_of_ble_eq_true rfl⟩) hK hP hD hS hA [0] (fl5 _ _ _ _ _) rfl (by decide) (fl1 _) (fl1 _) rfl rfl (fl5 _ _ _ _ _) (va_recv hK hP (ci := 9) (q0 := 0) rfl (rwl (rwl (rwl (rwl o_Mn))))) rfl hl.1 rfl (Nat.le_of_ble_eq_true rfl) dX10_drive_40 ⟨Nat.zero_le _, Nat.zero_le _⟩ (fun H locs hP hD hS => ?_)
        have hP : va_P D vwCl (wMn K hMn rMn0 (hRo 99) rMn3 rMn4 rMn5 rMn6 rMn7 rMn8 (hJo 99) rMn10 o14.2 ++ wJo K hJo (hJw 99) hJk gJo5 sJo ++ wJk K hJk sJk ++ wDw K hJw sJw ++ wRo K hRo sRo) H := hP
        have hD : va_D A (wMn K hMn rMn0 (hRo 99) rMn3 rMn4 rMn5 rMn6 rMn7 rMn8 (hJo 99) rMn10 o14.2 ++ wJo K hJo (hJw 99) hJk gJo5 sJo ++ wJk K hJk sJk ++ wDw K hJw sJw ++ wRo K hRo sRo) := hD
        have e9 := Option.some.inj hf
        rw [hQ]
        exact W.iret (v := o14.1) hx hb hr (fun t ht hW => ⟨⟨o14.1, (o14.2, sJo, sJk, sJw), rfl, ⟨pr1 e9, pr2 e9⟩, ⟨by rw [ht]; exact hP, va_K.moved hW.alike hK, hD⟩⟩, hS.F ht⟩) hS.2.2 dX10_drive_43
    · have hf := it_t hf c4
      refine lv_aload_n hx hb dX10_drive_19 rfl (lv_at hl 1 rfl) ?_
      refine lv_iconst (v := (1 : Int32)) hx hb dX10_drive_20 (by decide) ?_
      obtain ⟨o15, go15, hf⟩ := bd_s hf
      refine rk_Vi (wn := wMn K hMn rMn0 (hRo 99) rMn3 rMn4 rMn5 rMn6 rMn7 rMn8 (hJo 99) rMn10 o15.2 ++ wJo K hJo (hJw 99) hJk gJo5 sJo ++ wJk K hJk sJk ++ wDw K hJw sJw ++ wRo K hRo sRo) [wMn K hMn rMn0 (hRo 99) rMn3 rMn4 rMn5 rMn6 rMn7 rMn8 (hJo 99) rMn10 sMn, wJo K hJo (hJw 99) hJk gJo5 sJo, wJk K hJk sJk, wDw K hJw sJw, wRo K hRo sRo] [wMn K hMn rMn0 (hRo 99) rMn3 rMn4 rMn5 rMn6 rMn7 rMn8 (hJo 99) rMn10 sMn] [wMn K hMn rMn0 (hRo 99) rMn3 rMn4 rMn5 rMn6 rMn7 rMn8 (hJo 99) rMn10 o15.2] [wMn K hMn rMn0 (hRo 99) rMn3 rMn4 rMn5 rMn6 rMn7 rMn8 (hJo 99) rMn10 o15.2, wJo K hJo (hJw 99) hJk gJo5 sJo, wJk K hJk sJk, wDw K hJw sJw, wRo K hRo sRo] (As := [.int (1 : Int32)]) (rest := []) ⟨hx, hb, hml, hown, hts⟩ (c_X10_refuse l D K F hMn rMn0 (hRo 99) rMn3 rMn4 rMn5 rMn6 rMn7 rMn8 (hJo 99) rMn10 H.size sMn (1 : Int32) o15 go15) (cwV 1 hts (gcV_X10_refuse (mB7 _ (List.mem_of_getElem? (i := 18) rfl))) rfl rfl rfl hdV_X10_refuse ⟨Nat.le_of_ble_eq_true rfl, Nat.le_of_ble_eq_true rfl⟩) hK hP hD hS hA [0] (fl5 _ _ _ _ _) rfl (by decide) (fl1 _) (fl1 _) rfl rfl (fl5 _ _ _ _ _) (va_recv hK hP (ci := 9) (q0 := 0) rfl (rwl (rwl (rwl (rwl o_Mn))))) rfl hl.1 rfl (Nat.le_of_ble_eq_true rfl) dX10_drive_21 ⟨Nat.zero_le _, Nat.zero_le _⟩ (fun H locs hP hD hS => ?_)
      have hP : va_P D vwCl (wMn K hMn rMn0 (hRo 99) rMn3 rMn4 rMn5 rMn6 rMn7 rMn8 (hJo 99) rMn10 o15.2 ++ wJo K hJo (hJw 99) hJk gJo5 sJo ++ wJk K hJk sJk ++ wDw K hJw sJw ++ wRo K hRo sRo) H := hP
      have hD : va_D A (wMn K hMn rMn0 (hRo 99) rMn3 rMn4 rMn5 rMn6 rMn7 rMn8 (hJo 99) rMn10 o15.2 ++ wJo K hJo (hJw 99) hJk gJo5 sJo ++ wJk K hJk sJk ++ wDw K hJw sJw ++ wRo K hRo sRo) := hD
      have e9 := Option.some.inj hf
      rw [hQ]
      exact W.iret (v := o15.1) hx hb hr (fun t ht hW => ⟨⟨o15.1, (o15.2, sJo, sJk, sJw), rfl, ⟨pr1 e9, pr2 e9⟩, ⟨by rw [ht]; exact hP, va_K.moved hW.alike hK, hD⟩⟩, hS.F ht⟩) hS.2.2 dX10_drive_24
  rw [hHe] at hgo
  exact hgo

theorem gcV_X3_stay {T0 : Cond} {own : String} {i : Nat} (h : Cond.methodLink own i yX3_stay ∈ wsL_law) : GoodIn (T0 :: wsL_law) (wsV own i RX3 yX3_stay wz_X3_stay) := gV h (mB64 _ (List.mem_of_getElem? (i := 4) rfl)) (mB64 _ (List.mem_of_getElem? (i := 5) rfl)) (mB2 _ (List.mem_of_getElem? (i := 18) rfl)) (mB64 _ (List.mem_of_getElem? (i := 6) rfl))
theorem hdV_X3_stay : yX3_stay.cls = RX3 ∧ yX3_stay.cls ≠ "java/lang/invoke/MethodHandle" ∧ yX3_stay.cls ≠ "java/lang/invoke/VarHandle" ∧ (parseMethodDescriptor yX3_stay.desc).map (fun d => d.parameters.length) = some 1 := by decide +kernel
def wz_X10_waits : List Cond := .code yX10_waits cX10_waits 1 (some .int) :: wsL_law
abbrev r_X10_waits : Room := { frames := 4, cells := 0, slots := 0, locals := 86 }
set_option maxHeartbeats 4000000 in
set_option maxRecDepth 100000 in
theorem c_X10_waits (l : Launch) (D : va_G) (K : Nat → ClassId) (F : Nat) (hMn : Nat → Nat) (rMn0 : Nat) (rMn3 : Nat) (rMn4 : Nat) (rMn5 : Nat) (rMn6 : Nat) (rMn7 : Nat) (rMn8 : Nat) (rMn10 : Nat) (hJo : Nat → Nat) (gJo5 : Nat → Nat) (hJk : Nat → Nat) (hJw : Nat → Nat) (hRo : Nat → Nat) (sz : Nat) (sMn : MS) (sJo : MS) (sJk : MS) (sJw : MS) (sRo : MS) (res : Int32 × Nat × MS × MS × MS × MS) (hf : f_X10_waits F sRo sMn sJo sJk sJw = some res) : Met l yX10_waits wz_X10_waits r_X10_waits (va_Pc [.ref (hMn 99)] (PW D K (wMn K hMn rMn0 (hRo 99) rMn3 rMn4 rMn5 rMn6 rMn7 rMn8 (hJo 99) rMn10 sMn ++ wJo K hJo (hJw 99) hJk gJo5 sJo ++ wJk K hJk sJk ++ wDw K hJw sJw ++ wRo K hRo sRo) sz)) (va_Qi (fun r u => r = res.1 ∧ u = res.2) (fun u t => BW D K (va_A (wMn K hMn rMn0 (hRo 99) rMn3 rMn4 rMn5 rMn6 rMn7 rMn8 (hJo 99) rMn10 sMn ++ wJo K hJo (hJw 99) hJk gJo5 sJo ++ wJk K hJk sJk ++ wDw K hJw sJw ++ wRo K hRo sRo) sz) (match u.1 with | _ => wMn K hMn rMn0 (hRo 99) rMn3 rMn4 rMn5 rMn6 rMn7 rMn8 (hJo 99) rMn10 u.2.1 ++ wJo K hJo (hJw 99) hJk gJo5 u.2.2.1 ++ wJk K hJk u.2.2.2.1 ++ wDw K hJw u.2.2.2.2 ++ wRo K hRo sRo) t) (va_A (wMn K hMn rMn0 (hRo 99) rMn3 rMn4 rMn5 rMn6 rMn7 rMn8 (hJo 99) rMn10 sMn ++ wJo K hJo (hJw 99) hJk gJo5 sJo ++ wJk K hJk sJk ++ wDw K hJw sJw ++ wRo K hRo sRo) sz)) 0 0 (va_A (wMn K hMn rMn0 (hRo 99) rMn3 rMn4 rMn5 rMn6 rMn7 rMn8 (hJo 99) rMn10 sMn ++ wJo K hJo (hJw 99) hJk gJo5 sJo ++ wJk K hJk sJk ++ wDw K hJw sJw ++ wRo K hRo sRo) sz) := by
  refine Met.ofW (cc := cX10_waits) (maxL := 1) (ret := (some .int)) (by decide) rfl ?_
  intro p e s m args below meth c s₁ B hml hv
  obtain ⟨hargs, hsz, hP, hK, hD0⟩ := hv
  have hx := B.exec
  have hb := B.bytes
  have hr := B.returns
  have hts := atoms_spec (ws := wz_X10_waits) B.pre
  have htl : ∀ w ∈ wsL_law, w.before args s = true := fun w h => hts w (List.mem_cons_of_mem _ h)
  have hown : s.vm.findClass RX10 = some m.cls := findClass_of_methodNamed B.named
  have hlocks := B.notSynchronized
  subst hsz
  have hD := hD0.self (sz := s.heap.size)
  generalize hAe : va_A (wMn K hMn rMn0 (hRo 99) rMn3 rMn4 rMn5 rMn6 rMn7 rMn8 (hJo 99) rMn10 sMn ++ wJo K hJo (hJw 99) hJk gJo5 sJo ++ wJk K hJk sJk ++ wDw K hJw sJw ++ wRo K hRo sRo) s.heap.size = A at hD ⊢
  have hA : ∀ q : Nat, s.heap.size ≤ q → A q := fun q h => by rw [← hAe]; exact Or.inr h
  have hS : va_S A s.heap s.heap [] := va_S.rf
  have iX10 : ∀ w ∈ wsX100, w ∈ wz_X10_waits := fun w h => List.mem_cons_of_mem _ (inlX10 w h)
  have iX3 : ∀ w ∈ wsX30, w ∈ wz_X10_waits := fun w h => List.mem_cons_of_mem _ (inlX3 w h)
  suffices hgo : ∀ Q : State → Prop, Q = MQ below (va_Qi (fun r u => r = res.1 ∧ u = res.2) (fun u t => BW D K A (match u.1 with | _ => wMn K hMn rMn0 (hRo 99) rMn3 rMn4 rMn5 rMn6 rMn7 rMn8 (hJo 99) rMn10 u.2.1 ++ wJo K hJo (hJw 99) hJk gJo5 u.2.2.1 ++ wJk K hJk u.2.2.2.1 ++ wDw K hJw u.2.2.2.2 ++ wRo K hRo sRo) t) A) args s 0 0 A → W p l e (headSpec wz_X10_waits r_X10_waits).room s m args below meth c s.heap [] 0 0 Q (entryFrame m args 1) from hgo _ rfl
  intro Q hQ
  have hen : entryFrame m args 1 = entryFrame m (([.ref (hMn 99)] : List Value).toArray) 1 := by rw [hargs]
  have hl := lv_entry ([.ref (hMn 99)]) (n := 1) (Nat.le_of_ble_eq_true rfl)
  rw [hen, lg_entry_eq]
  generalize (lg_sl ([.ref (hMn 99)]) ++ List.replicate (1 - (lg_sl ([.ref (hMn 99)])).length) Slot.unset).toArray = ls at hl ⊢
  have hl : lv_has ls 1 [(0, .ref (hMn 99))] := hl
  unfold f_X10_waits at hf
  obtain ⟨H, hHe⟩ : ∃ z, z = s.heap := ⟨_, rfl⟩
  obtain ⟨locs, hLe⟩ : ∃ z : List Loc, z = [] := ⟨_, rfl⟩
  rw [← hLe]
  have hS : va_S A s.heap H locs := by rw [hHe, hLe]; exact hS
  have hP : va_P D vwCl (wMn K hMn rMn0 (hRo 99) rMn3 rMn4 rMn5 rMn6 rMn7 rMn8 (hJo 99) rMn10 sMn ++ wJo K hJo (hJw 99) hJk gJo5 sJo ++ wJk K hJk sJk ++ wDw K hJw sJw ++ wRo K hRo sRo) H := by rw [hHe]; exact hP
  have hgo : W p l e (headSpec wz_X10_waits r_X10_waits).room s m args below meth c H locs 0 0 Q (F0 m 0 ls []) := by
    refine lv_aload_n hx hb dX10_waits_0 rfl (lv_at hl 0 rfl) ?_
    refine va_get (D := D) (ci := 9) (v := .ref (hRo 99)) (C := RX10) (T := TX10) (N := 14) hx hb hts iX10 hown hK hP 0 (rwl (rwl (rwl (rwl o_Mn)))) rfl 2 (by decide) (htl _ (mB1 _ (List.mem_of_getElem? (i := 18) rfl))) (fun _ h9 => h9) rfl dX10_waits_1 ?_
    obtain ⟨o1, go1, hf⟩ := bd_s hf
    refine ro_Vi (As := []) (rest := []) ⟨hx, hb, hml, hown, hts⟩ (c_X9_isTold l D K F hRo sRo o1 go1) (cwV 0 hts (gcV_X9_isTold (mB30 _ (List.mem_of_getElem? (i := 0) rfl))) rfl rfl rfl hdV_X9_isTold ⟨Nat.le_of_ble_eq_true rfl, Nat.le_of_ble_eq_true rfl⟩) hK hP hS (va_PL (cs := [wMn K hMn rMn0 (hRo 99) rMn3 rMn4 rMn5 rMn6 rMn7 rMn8 (hJo 99) rMn10 sMn, wJo K hJo (hJw 99) hJk gJo5 sJo, wJk K hJk sJk, wDw K hJw sJw, wRo K hRo sRo]) (cc := [wRo K hRo sRo]) hP (fl5 _ _ _ _ _) [4] rfl (fl1 _)) (va_recv hK hP (ci := 8) (q0 := ((((1 + 4) + 12) + 1) + 0)) rfl (rwr (lnA (lnA (lnA ln_Mn ln_Jo) ln_Jk) ln_Dw) o_Ro)) rfl hl.1 rfl (Nat.le_of_ble_eq_true rfl) dX10_waits_4 ⟨Nat.zero_le _, Nat.zero_le _⟩ (fun H locs hP hS => ?_)
    refine lv_if_ne (tgt := 16) hx hb dX10_waits_7 (by decide) (fun c2 => ?_) (fun c2 => ?_)
    · have hf := it_f hf c2
      refine lv_aload_n hx hb dX10_waits_16 rfl (lv_at hl 0 rfl) ?_
      refine va_get (D := D) (ci := 9) (v := .ref (hJo 99)) (C := RX10) (T := TX10) (N := 14) hx hb hts iX10 hown hK hP 0 (rwl (rwl (rwl (rwl o_Mn)))) rfl 9 (by decide) (htl _ (mB2 _ (List.mem_of_getElem? (i := 19) rfl))) (fun _ h9 => h9) rfl dX10_waits_17 ?_
      refine lv_aload_n hx hb dX10_waits_20 rfl (lv_at hl 0 rfl) ?_
      refine va_get (D := D) (ci := 9) (v := .ref (hRo 99)) (C := RX10) (T := TX10) (N := 14) hx hb hts iX10 hown hK hP 0 (rwl (rwl (rwl (rwl o_Mn)))) rfl 2 (by decide) (htl _ (mB1 _ (List.mem_of_getElem? (i := 18) rfl))) (fun _ h9 => h9) rfl dX10_waits_21 ?_
      obtain ⟨o3, go3, hf⟩ := bd_s hf
      refine rk_Vv (wn := wMn K hMn rMn0 (hRo 99) rMn3 rMn4 rMn5 rMn6 rMn7 rMn8 (hJo 99) rMn10 sMn ++ wJo K hJo (hJw 99) hJk gJo5 o3.2.1 ++ wJk K hJk o3.2.2 ++ wDw K hJw o3.1 ++ wRo K hRo sRo) [wMn K hMn rMn0 (hRo 99) rMn3 rMn4 rMn5 rMn6 rMn7 rMn8 (hJo 99) rMn10 sMn, wJo K hJo (hJw 99) hJk gJo5 sJo, wJk K hJk sJk, wDw K hJw sJw, wRo K hRo sRo] [wDw K hJw sJw, wJo K hJo (hJw 99) hJk gJo5 sJo, wJk K hJk sJk, wRo K hRo sRo] [wDw K hJw o3.1, wJo K hJo (hJw 99) hJk gJo5 o3.2.1, wJk K hJk o3.2.2, wRo K hRo sRo] [wMn K hMn rMn0 (hRo 99) rMn3 rMn4 rMn5 rMn6 rMn7 rMn8 (hJo 99) rMn10 sMn, wJo K hJo (hJw 99) hJk gJo5 o3.2.1, wJk K hJk o3.2.2, wDw K hJw o3.1, wRo K hRo sRo] (As := [.ref (hRo 99)]) (rest := []) ⟨hx, hb, hml, hown, hts⟩ (c_X3_stay l D K F hJw hJo gJo5 hJk hRo H.size sJw sJo sJk sRo o3 go3) (cwV 1 hts (gcV_X3_stay (mB64 _ (List.mem_of_getElem? (i := 3) rfl))) rfl rfl rfl hdV_X3_stay ⟨Nat.le_of_ble_eq_true rfl, Nat.le_of_ble_eq_true rfl⟩) hK hP hD hS hA [3, 1, 2, 4] (fl5 _ _ _ _ _) rfl (by decide) (fl4 _ _ _ _) (fl4 _ _ _ _) rfl rfl (fl5 _ _ _ _ _) (va_recv hK hP (ci := 3) (q0 := (1 + 0)) rfl (rwl (rwl (rwl (rwr ln_Mn o_Jo))))) rfl hl.1 rfl (Nat.le_of_ble_eq_true rfl) dX10_waits_24 ⟨Nat.zero_le _, Nat.zero_le _⟩ (fun H locs hP hD hS => ?_)
      have hP : va_P D vwCl (wMn K hMn rMn0 (hRo 99) rMn3 rMn4 rMn5 rMn6 rMn7 rMn8 (hJo 99) rMn10 sMn ++ wJo K hJo (hJw 99) hJk gJo5 o3.2.1 ++ wJk K hJk o3.2.2 ++ wDw K hJw o3.1 ++ wRo K hRo sRo) H := hP
      have hD : va_D A (wMn K hMn rMn0 (hRo 99) rMn3 rMn4 rMn5 rMn6 rMn7 rMn8 (hJo 99) rMn10 sMn ++ wJo K hJo (hJw 99) hJk gJo5 o3.2.1 ++ wJk K hJk o3.2.2 ++ wDw K hJw o3.1 ++ wRo K hRo sRo) := hD
      refine lv_aload_n hx hb dX10_waits_27 rfl (lv_at hl 0 rfl) ?_
      refine lv_aload_n hx hb dX10_waits_28 rfl (lv_at hl 0 rfl) ?_
      refine va_get (D := D) (ci := 9) (v := .ref (hJo 99)) (C := RX10) (T := TX10) (N := 14) hx hb hts iX10 hown hK hP 0 (rwl (rwl (rwl (rwl o_Mn)))) rfl 9 (by decide) (htl _ (mB2 _ (List.mem_of_getElem? (i := 19) rfl))) (fun _ h9 => h9) rfl dX10_waits_29 ?_
      refine va_get (D := D) (ci := 3) (v := .ref (hJo 0)) (C := RX3) (T := TX3) (N := 7) hx hb hts iX3 hown hK hP (1 + 0) (rwl (rwl (rwl (rwr ln_Mn o_Jo)))) rfl 0 (by decide) (htl _ (mB61 _ (List.mem_of_getElem? (i := 22) rfl))) (fun _ h9 => h9) rfl dX10_waits_32 ?_
      refine lv_iconst (v := (4 : Int32)) hx hb dX10_waits_35 (by decide) ?_
      obtain ⟨g4, hf⟩ := gd_s hf
      refine va_iald hx hb hK hP (1 + 1) 0 (f := o3.2.1.2.2.1 0) (rwl (rwl (rwl (rwr ln_Mn a_Jo_0)))) rfl (vpb_in g4) dX10_waits_36 ?_
      refine lv_topi (fun v5 ev5 => ?_)
      have hf := lz_s hf v5 ev5
      obtain ⟨o6, go6, hf⟩ := bd_s hf
      refine rk_Vi (wn := wMn K hMn rMn0 (hRo 99) rMn3 rMn4 rMn5 rMn6 rMn7 rMn8 (hJo 99) rMn10 o6.2 ++ wJo K hJo (hJw 99) hJk gJo5 o3.2.1 ++ wJk K hJk o3.2.2 ++ wDw K hJw o3.1 ++ wRo K hRo sRo) [wMn K hMn rMn0 (hRo 99) rMn3 rMn4 rMn5 rMn6 rMn7 rMn8 (hJo 99) rMn10 sMn, wJo K hJo (hJw 99) hJk gJo5 o3.2.1, wJk K hJk o3.2.2, wDw K hJw o3.1, wRo K hRo sRo] [wMn K hMn rMn0 (hRo 99) rMn3 rMn4 rMn5 rMn6 rMn7 rMn8 (hJo 99) rMn10 sMn] [wMn K hMn rMn0 (hRo 99) rMn3 rMn4 rMn5 rMn6 rMn7 rMn8 (hJo 99) rMn10 o6.2] [wMn K hMn rMn0 (hRo 99) rMn3 rMn4 rMn5 rMn6 rMn7 rMn8 (hJo 99) rMn10 o6.2, wJo K hJo (hJw 99) hJk gJo5 o3.2.1, wJk K hJk o3.2.2, wDw K hJw o3.1, wRo K hRo sRo] (As := [.int v5]) (rest := []) ⟨hx, hb, hml, hown, hts⟩ (c_X10_accept l D K F hMn rMn0 (hRo 99) rMn3 rMn4 rMn5 rMn6 rMn7 rMn8 (hJo 99) rMn10 H.size sMn v5 o6 go6) (cwV 1 hts (gcV_X10_accept (mB17 _ (List.mem_of_getElem? (i := 14) rfl))) rfl rfl rfl hdV_X10_accept ⟨Nat.le_of_ble_eq_true rfl, Nat.le_of_ble_eq_true rfl⟩) hK hP hD hS hA [0] (fl5 _ _ _ _ _) rfl (by decide) (fl1 _) (fl1 _) rfl rfl (fl5 _ _ _ _ _) (va_recv hK hP (ci := 9) (q0 := 0) rfl (rwl (rwl (rwl (rwl o_Mn))))) rfl hl.1 rfl (Nat.le_of_ble_eq_true rfl) dX10_waits_37 ⟨Nat.zero_le _, Nat.zero_le _⟩ (fun H locs hP hD hS => ?_)
      have hP : va_P D vwCl (wMn K hMn rMn0 (hRo 99) rMn3 rMn4 rMn5 rMn6 rMn7 rMn8 (hJo 99) rMn10 o6.2 ++ wJo K hJo (hJw 99) hJk gJo5 o3.2.1 ++ wJk K hJk o3.2.2 ++ wDw K hJw o3.1 ++ wRo K hRo sRo) H := hP
      have hD : va_D A (wMn K hMn rMn0 (hRo 99) rMn3 rMn4 rMn5 rMn6 rMn7 rMn8 (hJo 99) rMn10 o6.2 ++ wJo K hJo (hJw 99) hJk gJo5 o3.2.1 ++ wJk K hJk o3.2.2 ++ wDw K hJw o3.1 ++ wRo K hRo sRo) := hD
      have e9 := Option.some.inj hf
      rw [hQ]
      exact W.iret (v := o6.1) hx hb hr (fun t ht hW => ⟨⟨o6.1, (0, o6.2, o3.2.1, o3.2.2, o3.1), rfl, ⟨pr1 e9, pr2 e9⟩, ⟨by rw [ht]; exact hP, va_K.moved hW.alike hK, hD⟩⟩, hS.F ht⟩) hS.2.2 dX10_waits_40
    · have hf := it_t hf c2
      refine lv_aload_n hx hb dX10_waits_10 rfl (lv_at hl 0 rfl) ?_
      refine lv_iconst (v := (1 : Int32)) hx hb dX10_waits_11 (by decide) ?_
      obtain ⟨o7, go7, hf⟩ := bd_s hf
      refine rk_Vi (wn := wMn K hMn rMn0 (hRo 99) rMn3 rMn4 rMn5 rMn6 rMn7 rMn8 (hJo 99) rMn10 o7.2 ++ wJo K hJo (hJw 99) hJk gJo5 sJo ++ wJk K hJk sJk ++ wDw K hJw sJw ++ wRo K hRo sRo) [wMn K hMn rMn0 (hRo 99) rMn3 rMn4 rMn5 rMn6 rMn7 rMn8 (hJo 99) rMn10 sMn, wJo K hJo (hJw 99) hJk gJo5 sJo, wJk K hJk sJk, wDw K hJw sJw, wRo K hRo sRo] [wMn K hMn rMn0 (hRo 99) rMn3 rMn4 rMn5 rMn6 rMn7 rMn8 (hJo 99) rMn10 sMn] [wMn K hMn rMn0 (hRo 99) rMn3 rMn4 rMn5 rMn6 rMn7 rMn8 (hJo 99) rMn10 o7.2] [wMn K hMn rMn0 (hRo 99) rMn3 rMn4 rMn5 rMn6 rMn7 rMn8 (hJo 99) rMn10 o7.2, wJo K hJo (hJw 99) hJk gJo5 sJo, wJk K hJk sJk, wDw K hJw sJw, wRo K hRo sRo] (As := [.int (1 : Int32)]) (rest := []) ⟨hx, hb, hml, hown, hts⟩ (c_X10_refuse l D K F hMn rMn0 (hRo 99) rMn3 rMn4 rMn5 rMn6 rMn7 rMn8 (hJo 99) rMn10 H.size sMn (1 : Int32) o7 go7) (cwV 1 hts (gcV_X10_refuse (mB7 _ (List.mem_of_getElem? (i := 18) rfl))) rfl rfl rfl hdV_X10_refuse ⟨Nat.le_of_ble_eq_true rfl, Nat.le_of_ble_eq_true rfl⟩) hK hP hD hS hA [0] (fl5 _ _ _ _ _) rfl (by decide) (fl1 _) (fl1 _) rfl rfl (fl5 _ _ _ _ _) (va_recv hK hP (ci := 9) (q0 := 0) rfl (rwl (rwl (rwl (rwl o_Mn))))) rfl hl.1 rfl (Nat.le_of_ble_eq_true rfl) dX10_waits_12 ⟨Nat.zero_le _, Nat.zero_le _⟩ (fun H locs hP hD hS => ?_)
      have hP : va_P D vwCl (wMn K hMn rMn0 (hRo 99) rMn3 rMn4 rMn5 rMn6 rMn7 rMn8 (hJo 99) rMn10 o7.2 ++ wJo K hJo (hJw 99) hJk gJo5 sJo ++ wJk K hJk sJk ++ wDw K hJw sJw ++ wRo K hRo sRo) H := hP
      have hD : va_D A (wMn K hMn rMn0 (hRo 99) rMn3 rMn4 rMn5 rMn6 rMn7 rMn8 (hJo 99) rMn10 o7.2 ++ wJo K hJo (hJw 99) hJk gJo5 sJo ++ wJk K hJk sJk ++ wDw K hJw sJw ++ wRo K hRo sRo) := hD
      have e9 := Option.some.inj hf
      rw [hQ]
      exact W.iret (v := o7.1) hx hb hr (fun t ht hW => ⟨⟨o7.1, (0, o7.2, sJo, sJk, sJw), rfl, ⟨pr1 e9, pr2 e9⟩, ⟨by rw [ht]; exact hP, va_K.moved hW.alike hK, hD⟩⟩, hS.F ht⟩) hS.2.2 dX10_waits_15
  rw [hHe] at hgo
  exact hgo

def wz_X10_seed : List Cond := .code yX10_seed cX10_seed 2 (some .boolean) :: wsL_law
abbrev r_X10_seed : Room := { frames := 1, cells := 0, slots := 0, locals := 21 }
set_option maxHeartbeats 4000000 in
set_option maxRecDepth 100000 in
theorem c_X10_seed (l : Launch) (D : va_G) (K : Nat → ClassId) (F : Nat) (hMn : Nat → Nat) (rMn0 : Nat) (rMn3 : Nat) (rMn4 : Nat) (rMn5 : Nat) (rMn6 : Nat) (rMn7 : Nat) (rMn8 : Nat) (rMn10 : Nat) (hJo : Nat → Nat) (rJo6 : Nat) (gJo4 : Nat → Nat) (gJo5 : Nat → Nat) (hRo : Nat → Nat) (sz : Nat) (sMn : MS) (sJo : MS) (sRo : MS) (p1 : Int32) (res : Int32 × MS × MS) (hf : f_X10_seed F sRo p1 sMn sJo = some res) : Met l yX10_seed wz_X10_seed r_X10_seed (va_Pc [.ref (hMn 99), .int p1] (PW D K (wMn K hMn rMn0 (hRo 99) rMn3 rMn4 rMn5 rMn6 rMn7 rMn8 (hJo 99) rMn10 sMn ++ wJo K hJo rJo6 gJo4 gJo5 sJo ++ wRo K hRo sRo) sz)) (va_Qi (fun r u => r = res.1 ∧ u = res.2) (fun u t => BW D K (va_A (wMn K hMn rMn0 (hRo 99) rMn3 rMn4 rMn5 rMn6 rMn7 rMn8 (hJo 99) rMn10 sMn ++ wJo K hJo rJo6 gJo4 gJo5 sJo ++ wRo K hRo sRo) sz) (wMn K hMn rMn0 (hRo 99) rMn3 rMn4 rMn5 rMn6 rMn7 rMn8 (hJo 99) rMn10 u.1 ++ wJo K hJo rJo6 gJo4 gJo5 u.2 ++ wRo K hRo sRo) t) (va_A (wMn K hMn rMn0 (hRo 99) rMn3 rMn4 rMn5 rMn6 rMn7 rMn8 (hJo 99) rMn10 sMn ++ wJo K hJo rJo6 gJo4 gJo5 sJo ++ wRo K hRo sRo) sz)) 0 0 (va_A (wMn K hMn rMn0 (hRo 99) rMn3 rMn4 rMn5 rMn6 rMn7 rMn8 (hJo 99) rMn10 sMn ++ wJo K hJo rJo6 gJo4 gJo5 sJo ++ wRo K hRo sRo) sz) := by
  refine Met.ofW (cc := cX10_seed) (maxL := 2) (ret := (some .boolean)) (by decide) rfl ?_
  intro p e s m args below meth c s₁ B hml hv
  obtain ⟨hargs, hsz, hP, hK, hD0⟩ := hv
  have hx := B.exec
  have hb := B.bytes
  have hr := B.returns
  have hts := atoms_spec (ws := wz_X10_seed) B.pre
  have htl : ∀ w ∈ wsL_law, w.before args s = true := fun w h => hts w (List.mem_cons_of_mem _ h)
  have hown : s.vm.findClass RX10 = some m.cls := findClass_of_methodNamed B.named
  have hlocks := B.notSynchronized
  subst hsz
  have hD := hD0.self (sz := s.heap.size)
  generalize hAe : va_A (wMn K hMn rMn0 (hRo 99) rMn3 rMn4 rMn5 rMn6 rMn7 rMn8 (hJo 99) rMn10 sMn ++ wJo K hJo rJo6 gJo4 gJo5 sJo ++ wRo K hRo sRo) s.heap.size = A at hD ⊢
  have hA : ∀ q : Nat, s.heap.size ≤ q → A q := fun q h => by rw [← hAe]; exact Or.inr h
  have hS : va_S A s.heap s.heap [] := va_S.rf
  have iX10 : ∀ w ∈ wsX100, w ∈ wz_X10_seed := fun w h => List.mem_cons_of_mem _ (inlX10 w h)
  have iX3 : ∀ w ∈ wsX30, w ∈ wz_X10_seed := fun w h => List.mem_cons_of_mem _ (inlX3 w h)
  suffices hgo : ∀ Q : State → Prop, Q = MQ below (va_Qi (fun r u => r = res.1 ∧ u = res.2) (fun u t => BW D K A (wMn K hMn rMn0 (hRo 99) rMn3 rMn4 rMn5 rMn6 rMn7 rMn8 (hJo 99) rMn10 u.1 ++ wJo K hJo rJo6 gJo4 gJo5 u.2 ++ wRo K hRo sRo) t) A) args s 0 0 A → W p l e (headSpec wz_X10_seed r_X10_seed).room s m args below meth c s.heap [] 0 0 Q (entryFrame m args 2) from hgo _ rfl
  intro Q hQ
  have hen : entryFrame m args 2 = entryFrame m (([.ref (hMn 99), .int p1] : List Value).toArray) 2 := by rw [hargs]
  have hl := lv_entry ([.ref (hMn 99), .int p1]) (n := 2) (Nat.le_of_ble_eq_true rfl)
  rw [hen, lg_entry_eq]
  generalize (lg_sl ([.ref (hMn 99), .int p1]) ++ List.replicate (2 - (lg_sl ([.ref (hMn 99), .int p1])).length) Slot.unset).toArray = ls at hl ⊢
  have hl : lv_has ls 2 [(0, .ref (hMn 99)), (1, .int p1)] := hl
  unfold f_X10_seed at hf
  obtain ⟨H, hHe⟩ : ∃ z, z = s.heap := ⟨_, rfl⟩
  obtain ⟨locs, hLe⟩ : ∃ z : List Loc, z = [] := ⟨_, rfl⟩
  rw [← hLe]
  have hS : va_S A s.heap H locs := by rw [hHe, hLe]; exact hS
  have hP : va_P D vwCl (wMn K hMn rMn0 (hRo 99) rMn3 rMn4 rMn5 rMn6 rMn7 rMn8 (hJo 99) rMn10 sMn ++ wJo K hJo rJo6 gJo4 gJo5 sJo ++ wRo K hRo sRo) H := by rw [hHe]; exact hP
  have hgo : W p l e (headSpec wz_X10_seed r_X10_seed).room s m args below meth c H locs 0 0 Q (F0 m 0 ls []) := by
    refine lv_aload_n hx hb dX10_seed_0 rfl (lv_at hl 0 rfl) ?_
    refine va_get (D := D) (ci := 9) (v := .ref (hRo 99)) (C := RX10) (T := TX10) (N := 14) hx hb hts iX10 hown hK hP 0 (rwl (rwl o_Mn)) rfl 2 (by decide) (htl _ (mB1 _ (List.mem_of_getElem? (i := 18) rfl))) (fun _ h9 => h9) rfl dX10_seed_1 ?_
    obtain ⟨o1, go1, hf⟩ := bd_s hf
    refine ro_Vi (As := []) (rest := []) ⟨hx, hb, hml, hown, hts⟩ (c_X9_isTold l D K F hRo sRo o1 go1) (cwV 0 hts (gcV_X9_isTold (mB30 _ (List.mem_of_getElem? (i := 0) rfl))) rfl rfl rfl hdV_X9_isTold ⟨Nat.le_of_ble_eq_true rfl, Nat.le_of_ble_eq_true rfl⟩) hK hP hS (va_PL (cs := [wMn K hMn rMn0 (hRo 99) rMn3 rMn4 rMn5 rMn6 rMn7 rMn8 (hJo 99) rMn10 sMn, wJo K hJo rJo6 gJo4 gJo5 sJo, wRo K hRo sRo]) (cc := [wRo K hRo sRo]) hP (fl3 _ _ _) [2] rfl (fl1 _)) (va_recv hK hP (ci := 8) (q0 := ((1 + 4) + 0)) rfl (rwr (lnA ln_Mn ln_Jo) o_Ro)) rfl hl.1 rfl (Nat.le_of_ble_eq_true rfl) dX10_seed_4 ⟨Nat.zero_le _, Nat.zero_le _⟩ (fun H locs hP hS => ?_)
    refine lv_if_ne (tgt := 16) hx hb dX10_seed_7 (by decide) (fun c2 => ?_) (fun c2 => ?_)
    · have hf := it_f hf c2
      refine lv_iload_n hx hb dX10_seed_16 rfl (lv_at hl 1 rfl) ?_
      obtain ⟨o3, go3, hf⟩ := bd_s hf
      refine ro_Si (As := [.int p1]) (rest := []) ⟨hx, hb, hml, hown, hts⟩ (c_X10_isSeed l D K F p1 o3 go3) (va_cwS 1 hts (gcS_X10_isSeed (mB60 _ (List.mem_of_getElem? (i := 8) rfl))) rfl rfl rfl hdS_X10_isSeed ⟨Nat.le_of_ble_eq_true rfl, Nat.le_of_ble_eq_true rfl⟩) hK hP hS va_Pnil rfl hl.1 rfl (Nat.le_of_ble_eq_true rfl) dX10_seed_17 ⟨Nat.zero_le _, Nat.zero_le _⟩ (fun H locs hP hS => ?_)
      refine lv_if_ne (tgt := 29) hx hb dX10_seed_20 (by decide) (fun c4 => ?_) (fun c4 => ?_)
      · have hf := it_f hf c4
        refine lv_aload_n hx hb dX10_seed_29 rfl (lv_at hl 0 rfl) ?_
        refine va_get (D := D) (ci := 9) (v := .ref (hJo 99)) (C := RX10) (T := TX10) (N := 14) hx hb hts iX10 hown hK hP 0 (rwl (rwl o_Mn)) rfl 9 (by decide) (htl _ (mB2 _ (List.mem_of_getElem? (i := 19) rfl))) (fun _ h9 => h9) rfl dX10_seed_30 ?_
        refine va_get (D := D) (ci := 3) (v := .ref (hJo 0)) (C := RX3) (T := TX3) (N := 7) hx hb hts iX3 hown hK hP (1 + 0) (rwl (rwr ln_Mn o_Jo)) rfl 0 (by decide) (htl _ (mB61 _ (List.mem_of_getElem? (i := 22) rfl))) (fun _ h9 => h9) rfl dX10_seed_33 ?_
        refine lv_bipush (v := (6 : Int32)) hx hb dX10_seed_36 (by decide) ?_
        refine lv_iload_n hx hb dX10_seed_38 rfl (lv_at hl 1 rfl) ?_
        obtain ⟨g5, hf⟩ := gd_s hf
        refine va_iast hx hb hK hP hD hS (1 + 1) 0 (f := sJo.2.2.1 0) (rwl (rwr ln_Mn a_Jo_0)) rfl (vpb_in g5) dX10_seed_39 (fun H locs hP hD hS => ?_)
        have hP := cvP (stl (str ln_Mn sa_Jo_0) (rlt (rwr ln_Mn a_Jo_0))) hP
        have hD := cvD (stl (str ln_Mn sa_Jo_0) (rlt (rwr ln_Mn a_Jo_0))) hD
        obtain ⟨s6, es6⟩ : ∃ z, z = sA sJo 0 ((6 : Int32).toNatClampNeg) p1 := ⟨_, rfl⟩
        have hP : va_P D vwCl (wMn K hMn rMn0 (hRo 99) rMn3 rMn4 rMn5 rMn6 rMn7 rMn8 (hJo 99) rMn10 sMn ++ wJo K hJo rJo6 gJo4 gJo5 s6 ++ wRo K hRo sRo) H := by rw [es6]; exact hP
        have hD : va_D A (wMn K hMn rMn0 (hRo 99) rMn3 rMn4 rMn5 rMn6 rMn7 rMn8 (hJo 99) rMn10 sMn ++ wJo K hJo rJo6 gJo4 gJo5 s6 ++ wRo K hRo sRo) := by rw [es6]; exact hD
        have hf := lz_s hf s6 es6
        refine lv_aload_n hx hb dX10_seed_40 rfl (lv_at hl 0 rfl) ?_
        obtain ⟨o7, go7, hf⟩ := bd_s hf
        refine rk_Vi (wn := wMn K hMn rMn0 (hRo 99) rMn3 rMn4 rMn5 rMn6 rMn7 rMn8 (hJo 99) rMn10 o7.2 ++ wJo K hJo rJo6 gJo4 gJo5 s6 ++ wRo K hRo sRo) [wMn K hMn rMn0 (hRo 99) rMn3 rMn4 rMn5 rMn6 rMn7 rMn8 (hJo 99) rMn10 sMn, wJo K hJo rJo6 gJo4 gJo5 s6, wRo K hRo sRo] [wMn K hMn rMn0 (hRo 99) rMn3 rMn4 rMn5 rMn6 rMn7 rMn8 (hJo 99) rMn10 sMn] [wMn K hMn rMn0 (hRo 99) rMn3 rMn4 rMn5 rMn6 rMn7 rMn8 (hJo 99) rMn10 o7.2] [wMn K hMn rMn0 (hRo 99) rMn3 rMn4 rMn5 rMn6 rMn7 rMn8 (hJo 99) rMn10 o7.2, wJo K hJo rJo6 gJo4 gJo5 s6, wRo K hRo sRo] (As := []) (rest := []) ⟨hx, hb, hml, hown, hts⟩ (c_X10_allow l D K F hMn rMn0 (hRo 99) rMn3 rMn4 rMn5 rMn6 rMn7 rMn8 (hJo 99) rMn10 H.size sMn o7 go7) (cwV 0 hts (gcV_X10_allow (mB29 _ (List.mem_of_getElem? (i := 4) rfl))) rfl rfl rfl hdV_X10_allow ⟨Nat.le_of_ble_eq_true rfl, Nat.le_of_ble_eq_true rfl⟩) hK hP hD hS hA [0] (fl3 _ _ _) rfl (by decide) (fl1 _) (fl1 _) rfl rfl (fl3 _ _ _) (va_recv hK hP (ci := 9) (q0 := 0) rfl (rwl (rwl o_Mn))) rfl hl.1 rfl (Nat.le_of_ble_eq_true rfl) dX10_seed_41 ⟨Nat.zero_le _, Nat.zero_le _⟩ (fun H locs hP hD hS => ?_)
        have hP : va_P D vwCl (wMn K hMn rMn0 (hRo 99) rMn3 rMn4 rMn5 rMn6 rMn7 rMn8 (hJo 99) rMn10 o7.2 ++ wJo K hJo rJo6 gJo4 gJo5 s6 ++ wRo K hRo sRo) H := hP
        have hD : va_D A (wMn K hMn rMn0 (hRo 99) rMn3 rMn4 rMn5 rMn6 rMn7 rMn8 (hJo 99) rMn10 o7.2 ++ wJo K hJo rJo6 gJo4 gJo5 s6 ++ wRo K hRo sRo) := hD
        obtain ⟨g8, hf⟩ := gd_s hf
        have e9 := Option.some.inj hf
        rw [hQ]
        exact W.zret (v := o7.1) hx hb hr (bob_s g8) (fun t ht hW => ⟨⟨o7.1, (o7.2, s6), rfl, ⟨pr1 e9, pr2 e9⟩, ⟨by rw [ht]; exact hP, va_K.moved hW.alike hK, hD⟩⟩, hS.F ht⟩) hS.2.2 dX10_seed_44
      · have hf := it_t hf c4
        refine lv_aload_n hx hb dX10_seed_23 rfl (lv_at hl 0 rfl) ?_
        refine lv_iconst (v := (2 : Int32)) hx hb dX10_seed_24 (by decide) ?_
        obtain ⟨o9, go9, hf⟩ := bd_s hf
        refine rk_Vi (wn := wMn K hMn rMn0 (hRo 99) rMn3 rMn4 rMn5 rMn6 rMn7 rMn8 (hJo 99) rMn10 o9.2 ++ wJo K hJo rJo6 gJo4 gJo5 sJo ++ wRo K hRo sRo) [wMn K hMn rMn0 (hRo 99) rMn3 rMn4 rMn5 rMn6 rMn7 rMn8 (hJo 99) rMn10 sMn, wJo K hJo rJo6 gJo4 gJo5 sJo, wRo K hRo sRo] [wMn K hMn rMn0 (hRo 99) rMn3 rMn4 rMn5 rMn6 rMn7 rMn8 (hJo 99) rMn10 sMn] [wMn K hMn rMn0 (hRo 99) rMn3 rMn4 rMn5 rMn6 rMn7 rMn8 (hJo 99) rMn10 o9.2] [wMn K hMn rMn0 (hRo 99) rMn3 rMn4 rMn5 rMn6 rMn7 rMn8 (hJo 99) rMn10 o9.2, wJo K hJo rJo6 gJo4 gJo5 sJo, wRo K hRo sRo] (As := [.int (2 : Int32)]) (rest := []) ⟨hx, hb, hml, hown, hts⟩ (c_X10_deny l D K F hMn rMn0 (hRo 99) rMn3 rMn4 rMn5 rMn6 rMn7 rMn8 (hJo 99) rMn10 H.size sMn (2 : Int32) o9 go9) (cwV 1 hts (gcV_X10_deny (mB29 _ (List.mem_of_getElem? (i := 0) rfl))) rfl rfl rfl hdV_X10_deny ⟨Nat.le_of_ble_eq_true rfl, Nat.le_of_ble_eq_true rfl⟩) hK hP hD hS hA [0] (fl3 _ _ _) rfl (by decide) (fl1 _) (fl1 _) rfl rfl (fl3 _ _ _) (va_recv hK hP (ci := 9) (q0 := 0) rfl (rwl (rwl o_Mn))) rfl hl.1 rfl (Nat.le_of_ble_eq_true rfl) dX10_seed_25 ⟨Nat.zero_le _, Nat.zero_le _⟩ (fun H locs hP hD hS => ?_)
        have hP : va_P D vwCl (wMn K hMn rMn0 (hRo 99) rMn3 rMn4 rMn5 rMn6 rMn7 rMn8 (hJo 99) rMn10 o9.2 ++ wJo K hJo rJo6 gJo4 gJo5 sJo ++ wRo K hRo sRo) H := hP
        have hD : va_D A (wMn K hMn rMn0 (hRo 99) rMn3 rMn4 rMn5 rMn6 rMn7 rMn8 (hJo 99) rMn10 o9.2 ++ wJo K hJo rJo6 gJo4 gJo5 sJo ++ wRo K hRo sRo) := hD
        obtain ⟨g10, hf⟩ := gd_s hf
        have e9 := Option.some.inj hf
        rw [hQ]
        exact W.zret (v := o9.1) hx hb hr (bob_s g10) (fun t ht hW => ⟨⟨o9.1, (o9.2, sJo), rfl, ⟨pr1 e9, pr2 e9⟩, ⟨by rw [ht]; exact hP, va_K.moved hW.alike hK, hD⟩⟩, hS.F ht⟩) hS.2.2 dX10_seed_28
    · have hf := it_t hf c2
      refine lv_aload_n hx hb dX10_seed_10 rfl (lv_at hl 0 rfl) ?_
      refine lv_iconst (v := (1 : Int32)) hx hb dX10_seed_11 (by decide) ?_
      obtain ⟨o11, go11, hf⟩ := bd_s hf
      refine rk_Vi (wn := wMn K hMn rMn0 (hRo 99) rMn3 rMn4 rMn5 rMn6 rMn7 rMn8 (hJo 99) rMn10 o11.2 ++ wJo K hJo rJo6 gJo4 gJo5 sJo ++ wRo K hRo sRo) [wMn K hMn rMn0 (hRo 99) rMn3 rMn4 rMn5 rMn6 rMn7 rMn8 (hJo 99) rMn10 sMn, wJo K hJo rJo6 gJo4 gJo5 sJo, wRo K hRo sRo] [wMn K hMn rMn0 (hRo 99) rMn3 rMn4 rMn5 rMn6 rMn7 rMn8 (hJo 99) rMn10 sMn] [wMn K hMn rMn0 (hRo 99) rMn3 rMn4 rMn5 rMn6 rMn7 rMn8 (hJo 99) rMn10 o11.2] [wMn K hMn rMn0 (hRo 99) rMn3 rMn4 rMn5 rMn6 rMn7 rMn8 (hJo 99) rMn10 o11.2, wJo K hJo rJo6 gJo4 gJo5 sJo, wRo K hRo sRo] (As := [.int (1 : Int32)]) (rest := []) ⟨hx, hb, hml, hown, hts⟩ (c_X10_deny l D K F hMn rMn0 (hRo 99) rMn3 rMn4 rMn5 rMn6 rMn7 rMn8 (hJo 99) rMn10 H.size sMn (1 : Int32) o11 go11) (cwV 1 hts (gcV_X10_deny (mB29 _ (List.mem_of_getElem? (i := 0) rfl))) rfl rfl rfl hdV_X10_deny ⟨Nat.le_of_ble_eq_true rfl, Nat.le_of_ble_eq_true rfl⟩) hK hP hD hS hA [0] (fl3 _ _ _) rfl (by decide) (fl1 _) (fl1 _) rfl rfl (fl3 _ _ _) (va_recv hK hP (ci := 9) (q0 := 0) rfl (rwl (rwl o_Mn))) rfl hl.1 rfl (Nat.le_of_ble_eq_true rfl) dX10_seed_12 ⟨Nat.zero_le _, Nat.zero_le _⟩ (fun H locs hP hD hS => ?_)
      have hP : va_P D vwCl (wMn K hMn rMn0 (hRo 99) rMn3 rMn4 rMn5 rMn6 rMn7 rMn8 (hJo 99) rMn10 o11.2 ++ wJo K hJo rJo6 gJo4 gJo5 sJo ++ wRo K hRo sRo) H := hP
      have hD : va_D A (wMn K hMn rMn0 (hRo 99) rMn3 rMn4 rMn5 rMn6 rMn7 rMn8 (hJo 99) rMn10 o11.2 ++ wJo K hJo rJo6 gJo4 gJo5 sJo ++ wRo K hRo sRo) := hD
      obtain ⟨g12, hf⟩ := gd_s hf
      have e9 := Option.some.inj hf
      rw [hQ]
      exact W.zret (v := o11.1) hx hb hr (bob_s g12) (fun t ht hW => ⟨⟨o11.1, (o11.2, sJo), rfl, ⟨pr1 e9, pr2 e9⟩, ⟨by rw [ht]; exact hP, va_K.moved hW.alike hK, hD⟩⟩, hS.F ht⟩) hS.2.2 dX10_seed_15
  rw [hHe] at hgo
  exact hgo

theorem gcV_X3_takeBack {T0 : Cond} {own : String} {i : Nat} (h : Cond.methodLink own i yX3_takeBack ∈ wsL_law) : GoodIn (T0 :: wsL_law) (wsV own i RX3 yX3_takeBack wz_X3_takeBack) := gV h (mB65 _ (List.mem_of_getElem? (i := 1) rfl)) (mB65 _ (List.mem_of_getElem? (i := 2) rfl)) (mB2 _ (List.mem_of_getElem? (i := 18) rfl)) (mB65 _ (List.mem_of_getElem? (i := 3) rfl))
theorem hdV_X3_takeBack : yX3_takeBack.cls = RX3 ∧ yX3_takeBack.cls ≠ "java/lang/invoke/MethodHandle" ∧ yX3_takeBack.cls ≠ "java/lang/invoke/VarHandle" ∧ (parseMethodDescriptor yX3_takeBack.desc).map (fun d => d.parameters.length) = some 0 := by decide +kernel
def wz_X10_undo : List Cond := .code yX10_undo cX10_undo 1 (some .boolean) :: wsL_law
abbrev r_X10_undo : Room := { frames := 2, cells := 0, slots := 0, locals := 46 }
set_option maxHeartbeats 4000000 in
set_option maxRecDepth 100000 in
theorem c_X10_undo (l : Launch) (D : va_G) (K : Nat → ClassId) (F : Nat) (hMn : Nat → Nat) (rMn0 : Nat) (rMn2 : Nat) (rMn3 : Nat) (rMn4 : Nat) (rMn5 : Nat) (rMn6 : Nat) (rMn7 : Nat) (rMn8 : Nat) (rMn10 : Nat) (hJo : Nat → Nat) (rJo6 : Nat) (gJo5 : Nat → Nat) (hJk : Nat → Nat) (sz : Nat) (sMn : MS) (sJo : MS) (sJk : MS) (res : Int32 × MS × MS) (hf : f_X10_undo F sJk sMn sJo = some res) : Met l yX10_undo wz_X10_undo r_X10_undo (va_Pc [.ref (hMn 99)] (PW D K (wMn K hMn rMn0 rMn2 rMn3 rMn4 rMn5 rMn6 rMn7 rMn8 (hJo 99) rMn10 sMn ++ wJo K hJo rJo6 hJk gJo5 sJo ++ wJk K hJk sJk) sz)) (va_Qi (fun r u => r = res.1 ∧ u = res.2) (fun u t => BW D K (va_A (wMn K hMn rMn0 rMn2 rMn3 rMn4 rMn5 rMn6 rMn7 rMn8 (hJo 99) rMn10 sMn ++ wJo K hJo rJo6 hJk gJo5 sJo ++ wJk K hJk sJk) sz) (wMn K hMn rMn0 rMn2 rMn3 rMn4 rMn5 rMn6 rMn7 rMn8 (hJo 99) rMn10 u.1 ++ wJo K hJo rJo6 hJk gJo5 u.2 ++ wJk K hJk sJk) t) (va_A (wMn K hMn rMn0 rMn2 rMn3 rMn4 rMn5 rMn6 rMn7 rMn8 (hJo 99) rMn10 sMn ++ wJo K hJo rJo6 hJk gJo5 sJo ++ wJk K hJk sJk) sz)) 0 0 (va_A (wMn K hMn rMn0 rMn2 rMn3 rMn4 rMn5 rMn6 rMn7 rMn8 (hJo 99) rMn10 sMn ++ wJo K hJo rJo6 hJk gJo5 sJo ++ wJk K hJk sJk) sz) := by
  refine Met.ofW (cc := cX10_undo) (maxL := 1) (ret := (some .boolean)) (by decide) rfl ?_
  intro p e s m args below meth c s₁ B hml hv
  obtain ⟨hargs, hsz, hP, hK, hD0⟩ := hv
  have hx := B.exec
  have hb := B.bytes
  have hr := B.returns
  have hts := atoms_spec (ws := wz_X10_undo) B.pre
  have htl : ∀ w ∈ wsL_law, w.before args s = true := fun w h => hts w (List.mem_cons_of_mem _ h)
  have hown : s.vm.findClass RX10 = some m.cls := findClass_of_methodNamed B.named
  have hlocks := B.notSynchronized
  subst hsz
  have hD := hD0.self (sz := s.heap.size)
  generalize hAe : va_A (wMn K hMn rMn0 rMn2 rMn3 rMn4 rMn5 rMn6 rMn7 rMn8 (hJo 99) rMn10 sMn ++ wJo K hJo rJo6 hJk gJo5 sJo ++ wJk K hJk sJk) s.heap.size = A at hD ⊢
  have hA : ∀ q : Nat, s.heap.size ≤ q → A q := fun q h => by rw [← hAe]; exact Or.inr h
  have hS : va_S A s.heap s.heap [] := va_S.rf
  have iX10 : ∀ w ∈ wsX100, w ∈ wz_X10_undo := fun w h => List.mem_cons_of_mem _ (inlX10 w h)
  have iX3 : ∀ w ∈ wsX30, w ∈ wz_X10_undo := fun w h => List.mem_cons_of_mem _ (inlX3 w h)
  suffices hgo : ∀ Q : State → Prop, Q = MQ below (va_Qi (fun r u => r = res.1 ∧ u = res.2) (fun u t => BW D K A (wMn K hMn rMn0 rMn2 rMn3 rMn4 rMn5 rMn6 rMn7 rMn8 (hJo 99) rMn10 u.1 ++ wJo K hJo rJo6 hJk gJo5 u.2 ++ wJk K hJk sJk) t) A) args s 0 0 A → W p l e (headSpec wz_X10_undo r_X10_undo).room s m args below meth c s.heap [] 0 0 Q (entryFrame m args 1) from hgo _ rfl
  intro Q hQ
  have hen : entryFrame m args 1 = entryFrame m (([.ref (hMn 99)] : List Value).toArray) 1 := by rw [hargs]
  have hl := lv_entry ([.ref (hMn 99)]) (n := 1) (Nat.le_of_ble_eq_true rfl)
  rw [hen, lg_entry_eq]
  generalize (lg_sl ([.ref (hMn 99)]) ++ List.replicate (1 - (lg_sl ([.ref (hMn 99)])).length) Slot.unset).toArray = ls at hl ⊢
  have hl : lv_has ls 1 [(0, .ref (hMn 99))] := hl
  unfold f_X10_undo at hf
  obtain ⟨H, hHe⟩ : ∃ z, z = s.heap := ⟨_, rfl⟩
  obtain ⟨locs, hLe⟩ : ∃ z : List Loc, z = [] := ⟨_, rfl⟩
  rw [← hLe]
  have hS : va_S A s.heap H locs := by rw [hHe, hLe]; exact hS
  have hP : va_P D vwCl (wMn K hMn rMn0 rMn2 rMn3 rMn4 rMn5 rMn6 rMn7 rMn8 (hJo 99) rMn10 sMn ++ wJo K hJo rJo6 hJk gJo5 sJo ++ wJk K hJk sJk) H := by rw [hHe]; exact hP
  have hgo : W p l e (headSpec wz_X10_undo r_X10_undo).room s m args below meth c H locs 0 0 Q (F0 m 0 ls []) := by
    refine lv_aload_n hx hb dX10_undo_0 rfl (lv_at hl 0 rfl) ?_
    refine va_get (D := D) (ci := 9) (v := .ref (hJo 99)) (C := RX10) (T := TX10) (N := 14) hx hb hts iX10 hown hK hP 0 (rwl (rwl o_Mn)) rfl 9 (by decide) (htl _ (mB2 _ (List.mem_of_getElem? (i := 19) rfl))) (fun _ h9 => h9) rfl dX10_undo_1 ?_
    refine va_get (D := D) (ci := 3) (v := .int (sJo.1 1)) (C := RX3) (T := TX3) (N := 7) hx hb hts iX3 hown hK hP (1 + 0) (rwl (rwr ln_Mn o_Jo)) rfl 1 (by decide) (htl _ (mB64 _ (List.mem_of_getElem? (i := 23) rfl))) (fun _ h9 => h9) rfl dX10_undo_4 ?_
    refine lv_if_ne (tgt := 17) hx hb dX10_undo_7 (by decide) (fun c1 => ?_) (fun c1 => ?_)
    · have hf := it_f hf c1
      refine lv_aload_n hx hb dX10_undo_17 rfl (lv_at hl 0 rfl) ?_
      refine va_get (D := D) (ci := 9) (v := .ref (hJo 99)) (C := RX10) (T := TX10) (N := 14) hx hb hts iX10 hown hK hP 0 (rwl (rwl o_Mn)) rfl 9 (by decide) (htl _ (mB2 _ (List.mem_of_getElem? (i := 19) rfl))) (fun _ h9 => h9) rfl dX10_undo_18 ?_
      obtain ⟨o2, go2, hf⟩ := bd_s hf
      refine rk_Vv (wn := wMn K hMn rMn0 rMn2 rMn3 rMn4 rMn5 rMn6 rMn7 rMn8 (hJo 99) rMn10 sMn ++ wJo K hJo rJo6 hJk gJo5 o2 ++ wJk K hJk sJk) [wMn K hMn rMn0 rMn2 rMn3 rMn4 rMn5 rMn6 rMn7 rMn8 (hJo 99) rMn10 sMn, wJo K hJo rJo6 hJk gJo5 sJo, wJk K hJk sJk] [wJo K hJo rJo6 hJk gJo5 sJo, wJk K hJk sJk] [wJo K hJo rJo6 hJk gJo5 o2, wJk K hJk sJk] [wMn K hMn rMn0 rMn2 rMn3 rMn4 rMn5 rMn6 rMn7 rMn8 (hJo 99) rMn10 sMn, wJo K hJo rJo6 hJk gJo5 o2, wJk K hJk sJk] (As := []) (rest := []) ⟨hx, hb, hml, hown, hts⟩ (c_X3_takeBack l D K F hJo rJo6 gJo5 hJk H.size sJo sJk o2 go2) (cwV 0 hts (gcV_X3_takeBack (mB65 _ (List.mem_of_getElem? (i := 0) rfl))) rfl rfl rfl hdV_X3_takeBack ⟨Nat.le_of_ble_eq_true rfl, Nat.le_of_ble_eq_true rfl⟩) hK hP hD hS hA [1, 2] (fl3 _ _ _) rfl (by decide) (fl2 _ _) (fl2 _ _) rfl rfl (fl3 _ _ _) (va_recv hK hP (ci := 3) (q0 := (1 + 0)) rfl (rwl (rwr ln_Mn o_Jo))) rfl hl.1 rfl (Nat.le_of_ble_eq_true rfl) dX10_undo_21 ⟨Nat.zero_le _, Nat.zero_le _⟩ (fun H locs hP hD hS => ?_)
      have hP : va_P D vwCl (wMn K hMn rMn0 rMn2 rMn3 rMn4 rMn5 rMn6 rMn7 rMn8 (hJo 99) rMn10 sMn ++ wJo K hJo rJo6 hJk gJo5 o2 ++ wJk K hJk sJk) H := hP
      have hD : va_D A (wMn K hMn rMn0 rMn2 rMn3 rMn4 rMn5 rMn6 rMn7 rMn8 (hJo 99) rMn10 sMn ++ wJo K hJo rJo6 hJk gJo5 o2 ++ wJk K hJk sJk) := hD
      refine lv_aload_n hx hb dX10_undo_24 rfl (lv_at hl 0 rfl) ?_
      obtain ⟨o3, go3, hf⟩ := bd_s hf
      refine rk_Vi (wn := wMn K hMn rMn0 rMn2 rMn3 rMn4 rMn5 rMn6 rMn7 rMn8 (hJo 99) rMn10 o3.2 ++ wJo K hJo rJo6 hJk gJo5 o2 ++ wJk K hJk sJk) [wMn K hMn rMn0 rMn2 rMn3 rMn4 rMn5 rMn6 rMn7 rMn8 (hJo 99) rMn10 sMn, wJo K hJo rJo6 hJk gJo5 o2, wJk K hJk sJk] [wMn K hMn rMn0 rMn2 rMn3 rMn4 rMn5 rMn6 rMn7 rMn8 (hJo 99) rMn10 sMn] [wMn K hMn rMn0 rMn2 rMn3 rMn4 rMn5 rMn6 rMn7 rMn8 (hJo 99) rMn10 o3.2] [wMn K hMn rMn0 rMn2 rMn3 rMn4 rMn5 rMn6 rMn7 rMn8 (hJo 99) rMn10 o3.2, wJo K hJo rJo6 hJk gJo5 o2, wJk K hJk sJk] (As := []) (rest := []) ⟨hx, hb, hml, hown, hts⟩ (c_X10_allow l D K F hMn rMn0 rMn2 rMn3 rMn4 rMn5 rMn6 rMn7 rMn8 (hJo 99) rMn10 H.size sMn o3 go3) (cwV 0 hts (gcV_X10_allow (mB29 _ (List.mem_of_getElem? (i := 4) rfl))) rfl rfl rfl hdV_X10_allow ⟨Nat.le_of_ble_eq_true rfl, Nat.le_of_ble_eq_true rfl⟩) hK hP hD hS hA [0] (fl3 _ _ _) rfl (by decide) (fl1 _) (fl1 _) rfl rfl (fl3 _ _ _) (va_recv hK hP (ci := 9) (q0 := 0) rfl (rwl (rwl o_Mn))) rfl hl.1 rfl (Nat.le_of_ble_eq_true rfl) dX10_undo_25 ⟨Nat.zero_le _, Nat.zero_le _⟩ (fun H locs hP hD hS => ?_)
      have hP : va_P D vwCl (wMn K hMn rMn0 rMn2 rMn3 rMn4 rMn5 rMn6 rMn7 rMn8 (hJo 99) rMn10 o3.2 ++ wJo K hJo rJo6 hJk gJo5 o2 ++ wJk K hJk sJk) H := hP
      have hD : va_D A (wMn K hMn rMn0 rMn2 rMn3 rMn4 rMn5 rMn6 rMn7 rMn8 (hJo 99) rMn10 o3.2 ++ wJo K hJo rJo6 hJk gJo5 o2 ++ wJk K hJk sJk) := hD
      obtain ⟨g4, hf⟩ := gd_s hf
      have e9 := Option.some.inj hf
      rw [hQ]
      exact W.zret (v := o3.1) hx hb hr (bob_s g4) (fun t ht hW => ⟨⟨o3.1, (o3.2, o2), rfl, ⟨pr1 e9, pr2 e9⟩, ⟨by rw [ht]; exact hP, va_K.moved hW.alike hK, hD⟩⟩, hS.F ht⟩) hS.2.2 dX10_undo_28
    · have hf := it_t hf c1
      refine lv_aload_n hx hb dX10_undo_10 rfl (lv_at hl 0 rfl) ?_
      refine lv_bipush (v := (6 : Int32)) hx hb dX10_undo_11 (by decide) ?_
      obtain ⟨o5, go5, hf⟩ := bd_s hf
      refine rk_Vi (wn := wMn K hMn rMn0 rMn2 rMn3 rMn4 rMn5 rMn6 rMn7 rMn8 (hJo 99) rMn10 o5.2 ++ wJo K hJo rJo6 hJk gJo5 sJo ++ wJk K hJk sJk) [wMn K hMn rMn0 rMn2 rMn3 rMn4 rMn5 rMn6 rMn7 rMn8 (hJo 99) rMn10 sMn, wJo K hJo rJo6 hJk gJo5 sJo, wJk K hJk sJk] [wMn K hMn rMn0 rMn2 rMn3 rMn4 rMn5 rMn6 rMn7 rMn8 (hJo 99) rMn10 sMn] [wMn K hMn rMn0 rMn2 rMn3 rMn4 rMn5 rMn6 rMn7 rMn8 (hJo 99) rMn10 o5.2] [wMn K hMn rMn0 rMn2 rMn3 rMn4 rMn5 rMn6 rMn7 rMn8 (hJo 99) rMn10 o5.2, wJo K hJo rJo6 hJk gJo5 sJo, wJk K hJk sJk] (As := [.int (6 : Int32)]) (rest := []) ⟨hx, hb, hml, hown, hts⟩ (c_X10_deny l D K F hMn rMn0 rMn2 rMn3 rMn4 rMn5 rMn6 rMn7 rMn8 (hJo 99) rMn10 H.size sMn (6 : Int32) o5 go5) (cwV 1 hts (gcV_X10_deny (mB29 _ (List.mem_of_getElem? (i := 0) rfl))) rfl rfl rfl hdV_X10_deny ⟨Nat.le_of_ble_eq_true rfl, Nat.le_of_ble_eq_true rfl⟩) hK hP hD hS hA [0] (fl3 _ _ _) rfl (by decide) (fl1 _) (fl1 _) rfl rfl (fl3 _ _ _) (va_recv hK hP (ci := 9) (q0 := 0) rfl (rwl (rwl o_Mn))) rfl hl.1 rfl (Nat.le_of_ble_eq_true rfl) dX10_undo_13 ⟨Nat.zero_le _, Nat.zero_le _⟩ (fun H locs hP hD hS => ?_)
      have hP : va_P D vwCl (wMn K hMn rMn0 rMn2 rMn3 rMn4 rMn5 rMn6 rMn7 rMn8 (hJo 99) rMn10 o5.2 ++ wJo K hJo rJo6 hJk gJo5 sJo ++ wJk K hJk sJk) H := hP
      have hD : va_D A (wMn K hMn rMn0 rMn2 rMn3 rMn4 rMn5 rMn6 rMn7 rMn8 (hJo 99) rMn10 o5.2 ++ wJo K hJo rJo6 hJk gJo5 sJo ++ wJk K hJk sJk) := hD
      obtain ⟨g6, hf⟩ := gd_s hf
      have e9 := Option.some.inj hf
      rw [hQ]
      exact W.zret (v := o5.1) hx hb hr (bob_s g6) (fun t ht hW => ⟨⟨o5.1, (o5.2, sJo), rfl, ⟨pr1 e9, pr2 e9⟩, ⟨by rw [ht]; exact hP, va_K.moved hW.alike hK, hD⟩⟩, hS.F ht⟩) hS.2.2 dX10_undo_16
  rw [hHe] at hgo
  exact hgo

theorem gcV_X3_picture {T0 : Cond} {own : String} {i : Nat} (h : Cond.methodLink own i yX3_picture ∈ wsL_law) : GoodIn (T0 :: wsL_law) (wsV own i RX3 yX3_picture wz_X3_picture) := gV h (mB65 _ (List.mem_of_getElem? (i := 14) rfl)) (mB65 _ (List.mem_of_getElem? (i := 15) rfl)) (mB2 _ (List.mem_of_getElem? (i := 18) rfl)) (mB65 _ (List.mem_of_getElem? (i := 16) rfl))
theorem hdV_X3_picture : yX3_picture.cls = RX3 ∧ yX3_picture.cls ≠ "java/lang/invoke/MethodHandle" ∧ yX3_picture.cls ≠ "java/lang/invoke/VarHandle" ∧ (parseMethodDescriptor yX3_picture.desc).map (fun d => d.parameters.length) = some 0 := by decide +kernel
def wz_X10_image : List Cond := .code yX10_image cX10_image 1 (some .int) :: wsL_law
abbrev r_X10_image : Room := { frames := 2, cells := 0, slots := 0, locals := 46 }
set_option maxHeartbeats 4000000 in
set_option maxRecDepth 100000 in
theorem c_X10_image (l : Launch) (D : va_G) (K : Nat → ClassId) (F : Nat) (hMn : Nat → Nat) (rMn0 : Nat) (rMn3 : Nat) (rMn4 : Nat) (rMn5 : Nat) (rMn6 : Nat) (rMn7 : Nat) (rMn8 : Nat) (rMn10 : Nat) (hJo : Nat → Nat) (rJo6 : Nat) (gJo4 : Nat → Nat) (hJi : Nat → Nat) (hRo : Nat → Nat) (sz : Nat) (sMn : MS) (sJo : MS) (sJi : MS) (sRo : MS) (res : Int32 × MS × MS × MS) (hf : f_X10_image F sRo sMn sJo sJi = some res) : Met l yX10_image wz_X10_image r_X10_image (va_Pc [.ref (hMn 99)] (PW D K (wMn K hMn rMn0 (hRo 99) rMn3 rMn4 rMn5 rMn6 rMn7 rMn8 (hJo 99) rMn10 sMn ++ wJo K hJo rJo6 gJo4 hJi sJo ++ wJi K hJi sJi ++ wRo K hRo sRo) sz)) (va_Qi (fun r u => r = res.1 ∧ u = res.2) (fun u t => BW D K (va_A (wMn K hMn rMn0 (hRo 99) rMn3 rMn4 rMn5 rMn6 rMn7 rMn8 (hJo 99) rMn10 sMn ++ wJo K hJo rJo6 gJo4 hJi sJo ++ wJi K hJi sJi ++ wRo K hRo sRo) sz) (wMn K hMn rMn0 (hRo 99) rMn3 rMn4 rMn5 rMn6 rMn7 rMn8 (hJo 99) rMn10 u.1 ++ wJo K hJo rJo6 gJo4 hJi u.2.1 ++ wJi K hJi u.2.2 ++ wRo K hRo sRo) t) (va_A (wMn K hMn rMn0 (hRo 99) rMn3 rMn4 rMn5 rMn6 rMn7 rMn8 (hJo 99) rMn10 sMn ++ wJo K hJo rJo6 gJo4 hJi sJo ++ wJi K hJi sJi ++ wRo K hRo sRo) sz)) 0 0 (va_A (wMn K hMn rMn0 (hRo 99) rMn3 rMn4 rMn5 rMn6 rMn7 rMn8 (hJo 99) rMn10 sMn ++ wJo K hJo rJo6 gJo4 hJi sJo ++ wJi K hJi sJi ++ wRo K hRo sRo) sz) := by
  refine Met.ofW (cc := cX10_image) (maxL := 1) (ret := (some .int)) (by decide) rfl ?_
  intro p e s m args below meth c s₁ B hml hv
  obtain ⟨hargs, hsz, hP, hK, hD0⟩ := hv
  have hx := B.exec
  have hb := B.bytes
  have hr := B.returns
  have hts := atoms_spec (ws := wz_X10_image) B.pre
  have htl : ∀ w ∈ wsL_law, w.before args s = true := fun w h => hts w (List.mem_cons_of_mem _ h)
  have hown : s.vm.findClass RX10 = some m.cls := findClass_of_methodNamed B.named
  have hlocks := B.notSynchronized
  subst hsz
  have hD := hD0.self (sz := s.heap.size)
  generalize hAe : va_A (wMn K hMn rMn0 (hRo 99) rMn3 rMn4 rMn5 rMn6 rMn7 rMn8 (hJo 99) rMn10 sMn ++ wJo K hJo rJo6 gJo4 hJi sJo ++ wJi K hJi sJi ++ wRo K hRo sRo) s.heap.size = A at hD ⊢
  have hA : ∀ q : Nat, s.heap.size ≤ q → A q := fun q h => by rw [← hAe]; exact Or.inr h
  have hS : va_S A s.heap s.heap [] := va_S.rf
  have iX10 : ∀ w ∈ wsX100, w ∈ wz_X10_image := fun w h => List.mem_cons_of_mem _ (inlX10 w h)
  have iX3 : ∀ w ∈ wsX30, w ∈ wz_X10_image := fun w h => List.mem_cons_of_mem _ (inlX3 w h)
  suffices hgo : ∀ Q : State → Prop, Q = MQ below (va_Qi (fun r u => r = res.1 ∧ u = res.2) (fun u t => BW D K A (wMn K hMn rMn0 (hRo 99) rMn3 rMn4 rMn5 rMn6 rMn7 rMn8 (hJo 99) rMn10 u.1 ++ wJo K hJo rJo6 gJo4 hJi u.2.1 ++ wJi K hJi u.2.2 ++ wRo K hRo sRo) t) A) args s 0 0 A → W p l e (headSpec wz_X10_image r_X10_image).room s m args below meth c s.heap [] 0 0 Q (entryFrame m args 1) from hgo _ rfl
  intro Q hQ
  have hen : entryFrame m args 1 = entryFrame m (([.ref (hMn 99)] : List Value).toArray) 1 := by rw [hargs]
  have hl := lv_entry ([.ref (hMn 99)]) (n := 1) (Nat.le_of_ble_eq_true rfl)
  rw [hen, lg_entry_eq]
  generalize (lg_sl ([.ref (hMn 99)]) ++ List.replicate (1 - (lg_sl ([.ref (hMn 99)])).length) Slot.unset).toArray = ls at hl ⊢
  have hl : lv_has ls 1 [(0, .ref (hMn 99))] := hl
  unfold f_X10_image at hf
  obtain ⟨H, hHe⟩ : ∃ z, z = s.heap := ⟨_, rfl⟩
  obtain ⟨locs, hLe⟩ : ∃ z : List Loc, z = [] := ⟨_, rfl⟩
  rw [← hLe]
  have hS : va_S A s.heap H locs := by rw [hHe, hLe]; exact hS
  have hP : va_P D vwCl (wMn K hMn rMn0 (hRo 99) rMn3 rMn4 rMn5 rMn6 rMn7 rMn8 (hJo 99) rMn10 sMn ++ wJo K hJo rJo6 gJo4 hJi sJo ++ wJi K hJi sJi ++ wRo K hRo sRo) H := by rw [hHe]; exact hP
  have hgo : W p l e (headSpec wz_X10_image r_X10_image).room s m args below meth c H locs 0 0 Q (F0 m 0 ls []) := by
    refine lv_aload_n hx hb dX10_image_0 rfl (lv_at hl 0 rfl) ?_
    refine va_get (D := D) (ci := 9) (v := .ref (hRo 99)) (C := RX10) (T := TX10) (N := 14) hx hb hts iX10 hown hK hP 0 (rwl (rwl (rwl o_Mn))) rfl 2 (by decide) (htl _ (mB1 _ (List.mem_of_getElem? (i := 18) rfl))) (fun _ h9 => h9) rfl dX10_image_1 ?_
    obtain ⟨o1, go1, hf⟩ := bd_s hf
    refine ro_Vi (As := []) (rest := []) ⟨hx, hb, hml, hown, hts⟩ (c_X9_isTold l D K F hRo sRo o1 go1) (cwV 0 hts (gcV_X9_isTold (mB30 _ (List.mem_of_getElem? (i := 0) rfl))) rfl rfl rfl hdV_X9_isTold ⟨Nat.le_of_ble_eq_true rfl, Nat.le_of_ble_eq_true rfl⟩) hK hP hS (va_PL (cs := [wMn K hMn rMn0 (hRo 99) rMn3 rMn4 rMn5 rMn6 rMn7 rMn8 (hJo 99) rMn10 sMn, wJo K hJo rJo6 gJo4 hJi sJo, wJi K hJi sJi, wRo K hRo sRo]) (cc := [wRo K hRo sRo]) hP (fl4 _ _ _ _) [3] rfl (fl1 _)) (va_recv hK hP (ci := 8) (q0 := (((1 + 4) + 3) + 0)) rfl (rwr (lnA (lnA ln_Mn ln_Jo) ln_Ji) o_Ro)) rfl hl.1 rfl (Nat.le_of_ble_eq_true rfl) dX10_image_4 ⟨Nat.zero_le _, Nat.zero_le _⟩ (fun H locs hP hS => ?_)
    refine lv_if_ne (tgt := 16) hx hb dX10_image_7 (by decide) (fun c2 => ?_) (fun c2 => ?_)
    · have hf := it_f hf c2
      refine lv_aload_n hx hb dX10_image_16 rfl (lv_at hl 0 rfl) ?_
      refine va_get (D := D) (ci := 9) (v := .ref (hJo 99)) (C := RX10) (T := TX10) (N := 14) hx hb hts iX10 hown hK hP 0 (rwl (rwl (rwl o_Mn))) rfl 9 (by decide) (htl _ (mB2 _ (List.mem_of_getElem? (i := 19) rfl))) (fun _ h9 => h9) rfl dX10_image_17 ?_
      refine va_get (D := D) (ci := 3) (v := .int (sJo.1 2)) (C := RX3) (T := TX3) (N := 7) hx hb hts iX3 hown hK hP (1 + 0) (rwl (rwl (rwr ln_Mn o_Jo))) rfl 2 (by decide) (htl _ (mB65 _ (List.mem_of_getElem? (i := 12) rfl))) (fun _ h9 => h9) rfl dX10_image_20 ?_
      refine lv_iconst (v := (3 : Int32)) hx hb dX10_image_23 (by decide) ?_
      refine lv_icmp_lt (tgt := 33) hx hb dX10_image_24 (by decide) (fun c3 => ?_) (fun c3 => ?_)
      · have hf := it_t hf c3
        refine lv_aload_n hx hb dX10_image_33 rfl (lv_at hl 0 rfl) ?_
        refine lv_aload_n hx hb dX10_image_34 rfl (lv_at hl 0 rfl) ?_
        refine va_get (D := D) (ci := 9) (v := .ref (hJo 99)) (C := RX10) (T := TX10) (N := 14) hx hb hts iX10 hown hK hP 0 (rwl (rwl (rwl o_Mn))) rfl 9 (by decide) (htl _ (mB2 _ (List.mem_of_getElem? (i := 19) rfl))) (fun _ h9 => h9) rfl dX10_image_35 ?_
        obtain ⟨o4, go4, hf⟩ := bd_s hf
        refine rk_Vi (wn := wMn K hMn rMn0 (hRo 99) rMn3 rMn4 rMn5 rMn6 rMn7 rMn8 (hJo 99) rMn10 sMn ++ wJo K hJo rJo6 gJo4 hJi o4.2.1 ++ wJi K hJi o4.2.2 ++ wRo K hRo sRo) [wMn K hMn rMn0 (hRo 99) rMn3 rMn4 rMn5 rMn6 rMn7 rMn8 (hJo 99) rMn10 sMn, wJo K hJo rJo6 gJo4 hJi sJo, wJi K hJi sJi, wRo K hRo sRo] [wJo K hJo rJo6 gJo4 hJi sJo, wJi K hJi sJi] [wJo K hJo rJo6 gJo4 hJi o4.2.1, wJi K hJi o4.2.2] [wMn K hMn rMn0 (hRo 99) rMn3 rMn4 rMn5 rMn6 rMn7 rMn8 (hJo 99) rMn10 sMn, wJo K hJo rJo6 gJo4 hJi o4.2.1, wJi K hJi o4.2.2, wRo K hRo sRo] (As := []) (rest := [.ref (hMn 99)]) ⟨hx, hb, hml, hown, hts⟩ (c_X3_picture l D K F hJo rJo6 gJo4 hJi H.size sJo sJi o4 go4) (cwV 0 hts (gcV_X3_picture (mB65 _ (List.mem_of_getElem? (i := 13) rfl))) rfl rfl rfl hdV_X3_picture ⟨Nat.le_of_ble_eq_true rfl, Nat.le_of_ble_eq_true rfl⟩) hK hP hD hS hA [1, 2] (fl4 _ _ _ _) rfl (by decide) (fl2 _ _) (fl2 _ _) rfl rfl (fl4 _ _ _ _) (va_recv hK hP (ci := 3) (q0 := (1 + 0)) rfl (rwl (rwl (rwr ln_Mn o_Jo)))) rfl hl.1 rfl (Nat.le_of_ble_eq_true rfl) dX10_image_38 ⟨Nat.zero_le _, Nat.zero_le _⟩ (fun H locs hP hD hS => ?_)
        have hP : va_P D vwCl (wMn K hMn rMn0 (hRo 99) rMn3 rMn4 rMn5 rMn6 rMn7 rMn8 (hJo 99) rMn10 sMn ++ wJo K hJo rJo6 gJo4 hJi o4.2.1 ++ wJi K hJi o4.2.2 ++ wRo K hRo sRo) H := hP
        have hD : va_D A (wMn K hMn rMn0 (hRo 99) rMn3 rMn4 rMn5 rMn6 rMn7 rMn8 (hJo 99) rMn10 sMn ++ wJo K hJo rJo6 gJo4 hJi o4.2.1 ++ wJi K hJi o4.2.2 ++ wRo K hRo sRo) := hD
        obtain ⟨o5, go5, hf⟩ := bd_s hf
        refine rk_Vi (wn := wMn K hMn rMn0 (hRo 99) rMn3 rMn4 rMn5 rMn6 rMn7 rMn8 (hJo 99) rMn10 o5.2 ++ wJo K hJo rJo6 gJo4 hJi o4.2.1 ++ wJi K hJi o4.2.2 ++ wRo K hRo sRo) [wMn K hMn rMn0 (hRo 99) rMn3 rMn4 rMn5 rMn6 rMn7 rMn8 (hJo 99) rMn10 sMn, wJo K hJo rJo6 gJo4 hJi o4.2.1, wJi K hJi o4.2.2, wRo K hRo sRo] [wMn K hMn rMn0 (hRo 99) rMn3 rMn4 rMn5 rMn6 rMn7 rMn8 (hJo 99) rMn10 sMn] [wMn K hMn rMn0 (hRo 99) rMn3 rMn4 rMn5 rMn6 rMn7 rMn8 (hJo 99) rMn10 o5.2] [wMn K hMn rMn0 (hRo 99) rMn3 rMn4 rMn5 rMn6 rMn7 rMn8 (hJo 99) rMn10 o5.2, wJo K hJo rJo6 gJo4 hJi o4.2.1, wJi K hJi o4.2.2, wRo K hRo sRo] (As := [.int o4.1]) (rest := []) ⟨hx, hb, hml, hown, hts⟩ (c_X10_accept l D K F hMn rMn0 (hRo 99) rMn3 rMn4 rMn5 rMn6 rMn7 rMn8 (hJo 99) rMn10 H.size sMn o4.1 o5 go5) (cwV 1 hts (gcV_X10_accept (mB17 _ (List.mem_of_getElem? (i := 14) rfl))) rfl rfl rfl hdV_X10_accept ⟨Nat.le_of_ble_eq_true rfl, Nat.le_of_ble_eq_true rfl⟩) hK hP hD hS hA [0] (fl4 _ _ _ _) rfl (by decide) (fl1 _) (fl1 _) rfl rfl (fl4 _ _ _ _) (va_recv hK hP (ci := 9) (q0 := 0) rfl (rwl (rwl (rwl o_Mn)))) rfl hl.1 rfl (Nat.le_of_ble_eq_true rfl) dX10_image_41 ⟨Nat.zero_le _, Nat.zero_le _⟩ (fun H locs hP hD hS => ?_)
        have hP : va_P D vwCl (wMn K hMn rMn0 (hRo 99) rMn3 rMn4 rMn5 rMn6 rMn7 rMn8 (hJo 99) rMn10 o5.2 ++ wJo K hJo rJo6 gJo4 hJi o4.2.1 ++ wJi K hJi o4.2.2 ++ wRo K hRo sRo) H := hP
        have hD : va_D A (wMn K hMn rMn0 (hRo 99) rMn3 rMn4 rMn5 rMn6 rMn7 rMn8 (hJo 99) rMn10 o5.2 ++ wJo K hJo rJo6 gJo4 hJi o4.2.1 ++ wJi K hJi o4.2.2 ++ wRo K hRo sRo) := hD
        have e9 := Option.some.inj hf
        rw [hQ]
        exact W.iret (v := o5.1) hx hb hr (fun t ht hW => ⟨⟨o5.1, (o5.2, o4.2.1, o4.2.2), rfl, ⟨pr1 e9, pr2 e9⟩, ⟨by rw [ht]; exact hP, va_K.moved hW.alike hK, hD⟩⟩, hS.F ht⟩) hS.2.2 dX10_image_44
      · have hf := it_f hf c3
        refine lv_aload_n hx hb dX10_image_27 rfl (lv_at hl 0 rfl) ?_
        refine lv_iconst (v := (3 : Int32)) hx hb dX10_image_28 (by decide) ?_
        obtain ⟨o6, go6, hf⟩ := bd_s hf
        refine rk_Vi (wn := wMn K hMn rMn0 (hRo 99) rMn3 rMn4 rMn5 rMn6 rMn7 rMn8 (hJo 99) rMn10 o6.2 ++ wJo K hJo rJo6 gJo4 hJi sJo ++ wJi K hJi sJi ++ wRo K hRo sRo) [wMn K hMn rMn0 (hRo 99) rMn3 rMn4 rMn5 rMn6 rMn7 rMn8 (hJo 99) rMn10 sMn, wJo K hJo rJo6 gJo4 hJi sJo, wJi K hJi sJi, wRo K hRo sRo] [wMn K hMn rMn0 (hRo 99) rMn3 rMn4 rMn5 rMn6 rMn7 rMn8 (hJo 99) rMn10 sMn] [wMn K hMn rMn0 (hRo 99) rMn3 rMn4 rMn5 rMn6 rMn7 rMn8 (hJo 99) rMn10 o6.2] [wMn K hMn rMn0 (hRo 99) rMn3 rMn4 rMn5 rMn6 rMn7 rMn8 (hJo 99) rMn10 o6.2, wJo K hJo rJo6 gJo4 hJi sJo, wJi K hJi sJi, wRo K hRo sRo] (As := [.int (3 : Int32)]) (rest := []) ⟨hx, hb, hml, hown, hts⟩ (c_X10_refuse l D K F hMn rMn0 (hRo 99) rMn3 rMn4 rMn5 rMn6 rMn7 rMn8 (hJo 99) rMn10 H.size sMn (3 : Int32) o6 go6) (cwV 1 hts (gcV_X10_refuse (mB7 _ (List.mem_of_getElem? (i := 18) rfl))) rfl rfl rfl hdV_X10_refuse ⟨Nat.le_of_ble_eq_true rfl, Nat.le_of_ble_eq_true rfl⟩) hK hP hD hS hA [0] (fl4 _ _ _ _) rfl (by decide) (fl1 _) (fl1 _) rfl rfl (fl4 _ _ _ _) (va_recv hK hP (ci := 9) (q0 := 0) rfl (rwl (rwl (rwl o_Mn)))) rfl hl.1 rfl (Nat.le_of_ble_eq_true rfl) dX10_image_29 ⟨Nat.zero_le _, Nat.zero_le _⟩ (fun H locs hP hD hS => ?_)
        have hP : va_P D vwCl (wMn K hMn rMn0 (hRo 99) rMn3 rMn4 rMn5 rMn6 rMn7 rMn8 (hJo 99) rMn10 o6.2 ++ wJo K hJo rJo6 gJo4 hJi sJo ++ wJi K hJi sJi ++ wRo K hRo sRo) H := hP
        have hD : va_D A (wMn K hMn rMn0 (hRo 99) rMn3 rMn4 rMn5 rMn6 rMn7 rMn8 (hJo 99) rMn10 o6.2 ++ wJo K hJo rJo6 gJo4 hJi sJo ++ wJi K hJi sJi ++ wRo K hRo sRo) := hD
        have e9 := Option.some.inj hf
        rw [hQ]
        exact W.iret (v := o6.1) hx hb hr (fun t ht hW => ⟨⟨o6.1, (o6.2, sJo, sJi), rfl, ⟨pr1 e9, pr2 e9⟩, ⟨by rw [ht]; exact hP, va_K.moved hW.alike hK, hD⟩⟩, hS.F ht⟩) hS.2.2 dX10_image_32
    · have hf := it_t hf c2
      refine lv_aload_n hx hb dX10_image_10 rfl (lv_at hl 0 rfl) ?_
      refine lv_iconst (v := (1 : Int32)) hx hb dX10_image_11 (by decide) ?_
      obtain ⟨o7, go7, hf⟩ := bd_s hf
      refine rk_Vi (wn := wMn K hMn rMn0 (hRo 99) rMn3 rMn4 rMn5 rMn6 rMn7 rMn8 (hJo 99) rMn10 o7.2 ++ wJo K hJo rJo6 gJo4 hJi sJo ++ wJi K hJi sJi ++ wRo K hRo sRo) [wMn K hMn rMn0 (hRo 99) rMn3 rMn4 rMn5 rMn6 rMn7 rMn8 (hJo 99) rMn10 sMn, wJo K hJo rJo6 gJo4 hJi sJo, wJi K hJi sJi, wRo K hRo sRo] [wMn K hMn rMn0 (hRo 99) rMn3 rMn4 rMn5 rMn6 rMn7 rMn8 (hJo 99) rMn10 sMn] [wMn K hMn rMn0 (hRo 99) rMn3 rMn4 rMn5 rMn6 rMn7 rMn8 (hJo 99) rMn10 o7.2] [wMn K hMn rMn0 (hRo 99) rMn3 rMn4 rMn5 rMn6 rMn7 rMn8 (hJo 99) rMn10 o7.2, wJo K hJo rJo6 gJo4 hJi sJo, wJi K hJi sJi, wRo K hRo sRo] (As := [.int (1 : Int32)]) (rest := []) ⟨hx, hb, hml, hown, hts⟩ (c_X10_refuse l D K F hMn rMn0 (hRo 99) rMn3 rMn4 rMn5 rMn6 rMn7 rMn8 (hJo 99) rMn10 H.size sMn (1 : Int32) o7 go7) (cwV 1 hts (gcV_X10_refuse (mB7 _ (List.mem_of_getElem? (i := 18) rfl))) rfl rfl rfl hdV_X10_refuse ⟨Nat.le_of_ble_eq_true rfl, Nat.le_of_ble_eq_true rfl⟩) hK hP hD hS hA [0] (fl4 _ _ _ _) rfl (by decide) (fl1 _) (fl1 _) rfl rfl (fl4 _ _ _ _) (va_recv hK hP (ci := 9) (q0 := 0) rfl (rwl (rwl (rwl o_Mn)))) rfl hl.1 rfl (Nat.le_of_ble_eq_true rfl) dX10_image_12 ⟨Nat.zero_le _, Nat.zero_le _⟩ (fun H locs hP hD hS => ?_)
      have hP : va_P D vwCl (wMn K hMn rMn0 (hRo 99) rMn3 rMn4 rMn5 rMn6 rMn7 rMn8 (hJo 99) rMn10 o7.2 ++ wJo K hJo rJo6 gJo4 hJi sJo ++ wJi K hJi sJi ++ wRo K hRo sRo) H := hP
      have hD : va_D A (wMn K hMn rMn0 (hRo 99) rMn3 rMn4 rMn5 rMn6 rMn7 rMn8 (hJo 99) rMn10 o7.2 ++ wJo K hJo rJo6 gJo4 hJi sJo ++ wJi K hJi sJi ++ wRo K hRo sRo) := hD
      have e9 := Option.some.inj hf
      rw [hQ]
      exact W.iret (v := o7.1) hx hb hr (fun t ht hW => ⟨⟨o7.1, (o7.2, sJo, sJi), rfl, ⟨pr1 e9, pr2 e9⟩, ⟨by rw [ht]; exact hP, va_K.moved hW.alike hK, hD⟩⟩, hS.F ht⟩) hS.2.2 dX10_image_15
  rw [hHe] at hgo
  exact hgo

theorem gcV_X3_returnTo {T0 : Cond} {own : String} {i : Nat} (h : Cond.methodLink own i yX3_returnTo ∈ wsL_law) : GoodIn (T0 :: wsL_law) (wsV own i RX3 yX3_returnTo wz_X3_returnTo) := gV h (mB66 _ (List.mem_of_getElem? (i := 2) rfl)) (mB66 _ (List.mem_of_getElem? (i := 3) rfl)) (mB2 _ (List.mem_of_getElem? (i := 18) rfl)) (mB66 _ (List.mem_of_getElem? (i := 4) rfl))
theorem hdV_X3_returnTo : yX3_returnTo.cls = RX3 ∧ yX3_returnTo.cls ≠ "java/lang/invoke/MethodHandle" ∧ yX3_returnTo.cls ≠ "java/lang/invoke/VarHandle" ∧ (parseMethodDescriptor yX3_returnTo.desc).map (fun d => d.parameters.length) = some 1 := by decide +kernel
def wz_X10_back : List Cond := .code yX10_back cX10_back 2 (some .boolean) :: wsL_law
abbrev r_X10_back : Room := { frames := 2, cells := 0, slots := 0, locals := 47 }
set_option maxHeartbeats 4000000 in
set_option maxRecDepth 100000 in
theorem c_X10_back (l : Launch) (D : va_G) (K : Nat → ClassId) (F : Nat) (hMn : Nat → Nat) (rMn0 : Nat) (rMn2 : Nat) (rMn3 : Nat) (rMn4 : Nat) (rMn5 : Nat) (rMn6 : Nat) (rMn7 : Nat) (rMn8 : Nat) (rMn10 : Nat) (hJo : Nat → Nat) (rJo6 : Nat) (gJo4 : Nat → Nat) (hJi : Nat → Nat) (sz : Nat) (sMn : MS) (sJo : MS) (sJi : MS) (p1 : Int32) (res : Int32 × MS × MS) (hf : f_X10_back F sJi p1 sMn sJo = some res) : Met l yX10_back wz_X10_back r_X10_back (va_Pc [.ref (hMn 99), .int p1] (PW D K (wMn K hMn rMn0 rMn2 rMn3 rMn4 rMn5 rMn6 rMn7 rMn8 (hJo 99) rMn10 sMn ++ wJo K hJo rJo6 gJo4 hJi sJo ++ wJi K hJi sJi) sz)) (va_Qi (fun r u => r = res.1 ∧ u = res.2) (fun u t => BW D K (va_A (wMn K hMn rMn0 rMn2 rMn3 rMn4 rMn5 rMn6 rMn7 rMn8 (hJo 99) rMn10 sMn ++ wJo K hJo rJo6 gJo4 hJi sJo ++ wJi K hJi sJi) sz) (wMn K hMn rMn0 rMn2 rMn3 rMn4 rMn5 rMn6 rMn7 rMn8 (hJo 99) rMn10 u.1 ++ wJo K hJo rJo6 gJo4 hJi u.2 ++ wJi K hJi sJi) t) (va_A (wMn K hMn rMn0 rMn2 rMn3 rMn4 rMn5 rMn6 rMn7 rMn8 (hJo 99) rMn10 sMn ++ wJo K hJo rJo6 gJo4 hJi sJo ++ wJi K hJi sJi) sz)) 0 0 (va_A (wMn K hMn rMn0 rMn2 rMn3 rMn4 rMn5 rMn6 rMn7 rMn8 (hJo 99) rMn10 sMn ++ wJo K hJo rJo6 gJo4 hJi sJo ++ wJi K hJi sJi) sz) := by
  refine Met.ofW (cc := cX10_back) (maxL := 2) (ret := (some .boolean)) (by decide) rfl ?_
  intro p e s m args below meth c s₁ B hml hv
  obtain ⟨hargs, hsz, hP, hK, hD0⟩ := hv
  have hx := B.exec
  have hb := B.bytes
  have hr := B.returns
  have hts := atoms_spec (ws := wz_X10_back) B.pre
  have htl : ∀ w ∈ wsL_law, w.before args s = true := fun w h => hts w (List.mem_cons_of_mem _ h)
  have hown : s.vm.findClass RX10 = some m.cls := findClass_of_methodNamed B.named
  have hlocks := B.notSynchronized
  subst hsz
  have hD := hD0.self (sz := s.heap.size)
  generalize hAe : va_A (wMn K hMn rMn0 rMn2 rMn3 rMn4 rMn5 rMn6 rMn7 rMn8 (hJo 99) rMn10 sMn ++ wJo K hJo rJo6 gJo4 hJi sJo ++ wJi K hJi sJi) s.heap.size = A at hD ⊢
  have hA : ∀ q : Nat, s.heap.size ≤ q → A q := fun q h => by rw [← hAe]; exact Or.inr h
  have hS : va_S A s.heap s.heap [] := va_S.rf
  have iX10 : ∀ w ∈ wsX100, w ∈ wz_X10_back := fun w h => List.mem_cons_of_mem _ (inlX10 w h)
  have iX3 : ∀ w ∈ wsX30, w ∈ wz_X10_back := fun w h => List.mem_cons_of_mem _ (inlX3 w h)
  suffices hgo : ∀ Q : State → Prop, Q = MQ below (va_Qi (fun r u => r = res.1 ∧ u = res.2) (fun u t => BW D K A (wMn K hMn rMn0 rMn2 rMn3 rMn4 rMn5 rMn6 rMn7 rMn8 (hJo 99) rMn10 u.1 ++ wJo K hJo rJo6 gJo4 hJi u.2 ++ wJi K hJi sJi) t) A) args s 0 0 A → W p l e (headSpec wz_X10_back r_X10_back).room s m args below meth c s.heap [] 0 0 Q (entryFrame m args 2) from hgo _ rfl
  intro Q hQ
  have w15 : ∀ (sMn : MS), ∀ (sJo : MS), ∀ (H : Heap) (locs : List Loc) (ls : Array Slot), f_X10_back_15 F sJi p1 sMn sJo = some res → va_P D vwCl (wMn K hMn rMn0 rMn2 rMn3 rMn4 rMn5 rMn6 rMn7 rMn8 (hJo 99) rMn10 sMn ++ wJo K hJo rJo6 gJo4 hJi sJo ++ wJi K hJi sJi) H → va_D A (wMn K hMn rMn0 rMn2 rMn3 rMn4 rMn5 rMn6 rMn7 rMn8 (hJo 99) rMn10 sMn ++ wJo K hJo rJo6 gJo4 hJi sJo ++ wJi K hJi sJi) → va_S A s.heap H locs → lv_has ls 2 [(0, .ref (hMn 99))] → W p l e (headSpec wz_X10_back r_X10_back).room s m args below meth c H locs 0 0 Q (F0 m 15 ls []) := by
    intro sMn sJo H locs ls hf hP hD hS hl
    unfold f_X10_back_15 at hf
    refine lv_aload_n hx hb dX10_back_15 rfl (lv_at hl 0 rfl) ?_
    refine lv_iconst (v := (1 : Int32)) hx hb dX10_back_16 (by decide) ?_
    obtain ⟨o6, go6, hf⟩ := bd_s hf
    refine rk_Vi (wn := wMn K hMn rMn0 rMn2 rMn3 rMn4 rMn5 rMn6 rMn7 rMn8 (hJo 99) rMn10 o6.2 ++ wJo K hJo rJo6 gJo4 hJi sJo ++ wJi K hJi sJi) [wMn K hMn rMn0 rMn2 rMn3 rMn4 rMn5 rMn6 rMn7 rMn8 (hJo 99) rMn10 sMn, wJo K hJo rJo6 gJo4 hJi sJo, wJi K hJi sJi] [wMn K hMn rMn0 rMn2 rMn3 rMn4 rMn5 rMn6 rMn7 rMn8 (hJo 99) rMn10 sMn] [wMn K hMn rMn0 rMn2 rMn3 rMn4 rMn5 rMn6 rMn7 rMn8 (hJo 99) rMn10 o6.2] [wMn K hMn rMn0 rMn2 rMn3 rMn4 rMn5 rMn6 rMn7 rMn8 (hJo 99) rMn10 o6.2, wJo K hJo rJo6 gJo4 hJi sJo, wJi K hJi sJi] (As := [.int (1 : Int32)]) (rest := []) ⟨hx, hb, hml, hown, hts⟩ (c_X10_deny l D K F hMn rMn0 rMn2 rMn3 rMn4 rMn5 rMn6 rMn7 rMn8 (hJo 99) rMn10 H.size sMn (1 : Int32) o6 go6) (cwV 1 hts (gcV_X10_deny (mB29 _ (List.mem_of_getElem? (i := 0) rfl))) rfl rfl rfl hdV_X10_deny ⟨Nat.le_of_ble_eq_true rfl, Nat.le_of_ble_eq_true rfl⟩) hK hP hD hS hA [0] (fl3 _ _ _) rfl (by decide) (fl1 _) (fl1 _) rfl rfl (fl3 _ _ _) (va_recv hK hP (ci := 9) (q0 := 0) rfl (rwl (rwl o_Mn))) rfl hl.1 rfl (Nat.le_of_ble_eq_true rfl) dX10_back_17 ⟨Nat.zero_le _, Nat.zero_le _⟩ (fun H locs hP hD hS => ?_)
    have hP : va_P D vwCl (wMn K hMn rMn0 rMn2 rMn3 rMn4 rMn5 rMn6 rMn7 rMn8 (hJo 99) rMn10 o6.2 ++ wJo K hJo rJo6 gJo4 hJi sJo ++ wJi K hJi sJi) H := hP
    have hD : va_D A (wMn K hMn rMn0 rMn2 rMn3 rMn4 rMn5 rMn6 rMn7 rMn8 (hJo 99) rMn10 o6.2 ++ wJo K hJo rJo6 gJo4 hJi sJo ++ wJi K hJi sJi) := hD
    obtain ⟨g7, hf⟩ := gd_s hf
    have e9 := Option.some.inj hf
    rw [hQ]
    exact W.zret (v := o6.1) hx hb hr (bob_s g7) (fun t ht hW => ⟨⟨o6.1, (o6.2, sJo), rfl, ⟨pr1 e9, pr2 e9⟩, ⟨by rw [ht]; exact hP, va_K.moved hW.alike hK, hD⟩⟩, hS.F ht⟩) hS.2.2 dX10_back_20
  have hen : entryFrame m args 2 = entryFrame m (([.ref (hMn 99), .int p1] : List Value).toArray) 2 := by rw [hargs]
  have hl := lv_entry ([.ref (hMn 99), .int p1]) (n := 2) (Nat.le_of_ble_eq_true rfl)
  rw [hen, lg_entry_eq]
  generalize (lg_sl ([.ref (hMn 99), .int p1]) ++ List.replicate (2 - (lg_sl ([.ref (hMn 99), .int p1])).length) Slot.unset).toArray = ls at hl ⊢
  have hl : lv_has ls 2 [(0, .ref (hMn 99)), (1, .int p1)] := hl
  unfold f_X10_back at hf
  obtain ⟨H, hHe⟩ : ∃ z, z = s.heap := ⟨_, rfl⟩
  obtain ⟨locs, hLe⟩ : ∃ z : List Loc, z = [] := ⟨_, rfl⟩
  rw [← hLe]
  have hS : va_S A s.heap H locs := by rw [hHe, hLe]; exact hS
  have hP : va_P D vwCl (wMn K hMn rMn0 rMn2 rMn3 rMn4 rMn5 rMn6 rMn7 rMn8 (hJo 99) rMn10 sMn ++ wJo K hJo rJo6 gJo4 hJi sJo ++ wJi K hJi sJi) H := by rw [hHe]; exact hP
  have hgo : W p l e (headSpec wz_X10_back r_X10_back).room s m args below meth c H locs 0 0 Q (F0 m 0 ls []) := by
    refine lv_iload_n hx hb dX10_back_0 rfl (lv_at hl 1 rfl) ?_
    refine lv_if_lt (tgt := 15) hx hb dX10_back_1 (by decide) (fun c1 => ?_) (fun c1 => ?_)
    · have hf := it_t hf c1
      exact w15 sMn sJo H locs ls hf hP hD hS (lv_sub hl [0] rfl)
    · have hf := it_f hf c1
      refine lv_iload_n hx hb dX10_back_4 rfl (lv_at hl 1 rfl) ?_
      refine lv_aload_n hx hb dX10_back_5 rfl (lv_at hl 0 rfl) ?_
      refine va_get (D := D) (ci := 9) (v := .ref (hJo 99)) (C := RX10) (T := TX10) (N := 14) hx hb hts iX10 hown hK hP 0 (rwl (rwl o_Mn)) rfl 9 (by decide) (htl _ (mB2 _ (List.mem_of_getElem? (i := 19) rfl))) (fun _ h9 => h9) rfl dX10_back_6 ?_
      refine va_get (D := D) (ci := 3) (v := .int (sJo.1 2)) (C := RX3) (T := TX3) (N := 7) hx hb hts iX3 hown hK hP (1 + 0) (rwl (rwr ln_Mn o_Jo)) rfl 2 (by decide) (htl _ (mB65 _ (List.mem_of_getElem? (i := 12) rfl))) (fun _ h9 => h9) rfl dX10_back_9 ?_
      refine lv_icmp_lt (tgt := 21) hx hb dX10_back_12 (by decide) (fun c2 => ?_) (fun c2 => ?_)
      · have hf := it_t hf c2
        refine lv_aload_n hx hb dX10_back_21 rfl (lv_at hl 0 rfl) ?_
        refine va_get (D := D) (ci := 9) (v := .ref (hJo 99)) (C := RX10) (T := TX10) (N := 14) hx hb hts iX10 hown hK hP 0 (rwl (rwl o_Mn)) rfl 9 (by decide) (htl _ (mB2 _ (List.mem_of_getElem? (i := 19) rfl))) (fun _ h9 => h9) rfl dX10_back_22 ?_
        refine lv_iload_n hx hb dX10_back_25 rfl (lv_at hl 1 rfl) ?_
        obtain ⟨o3, go3, hf⟩ := bd_s hf
        refine rk_Vv (wn := wMn K hMn rMn0 rMn2 rMn3 rMn4 rMn5 rMn6 rMn7 rMn8 (hJo 99) rMn10 sMn ++ wJo K hJo rJo6 gJo4 hJi o3 ++ wJi K hJi sJi) [wMn K hMn rMn0 rMn2 rMn3 rMn4 rMn5 rMn6 rMn7 rMn8 (hJo 99) rMn10 sMn, wJo K hJo rJo6 gJo4 hJi sJo, wJi K hJi sJi] [wJo K hJo rJo6 gJo4 hJi sJo, wJi K hJi sJi] [wJo K hJo rJo6 gJo4 hJi o3, wJi K hJi sJi] [wMn K hMn rMn0 rMn2 rMn3 rMn4 rMn5 rMn6 rMn7 rMn8 (hJo 99) rMn10 sMn, wJo K hJo rJo6 gJo4 hJi o3, wJi K hJi sJi] (As := [.int p1]) (rest := []) ⟨hx, hb, hml, hown, hts⟩ (c_X3_returnTo l D K F hJo rJo6 gJo4 hJi H.size sJo sJi p1 o3 go3) (cwV 1 hts (gcV_X3_returnTo (mB66 _ (List.mem_of_getElem? (i := 1) rfl))) rfl rfl rfl hdV_X3_returnTo ⟨Nat.le_of_ble_eq_true rfl, Nat.le_of_ble_eq_true rfl⟩) hK hP hD hS hA [1, 2] (fl3 _ _ _) rfl (by decide) (fl2 _ _) (fl2 _ _) rfl rfl (fl3 _ _ _) (va_recv hK hP (ci := 3) (q0 := (1 + 0)) rfl (rwl (rwr ln_Mn o_Jo))) rfl hl.1 rfl (Nat.le_of_ble_eq_true rfl) dX10_back_26 ⟨Nat.zero_le _, Nat.zero_le _⟩ (fun H locs hP hD hS => ?_)
        have hP : va_P D vwCl (wMn K hMn rMn0 rMn2 rMn3 rMn4 rMn5 rMn6 rMn7 rMn8 (hJo 99) rMn10 sMn ++ wJo K hJo rJo6 gJo4 hJi o3 ++ wJi K hJi sJi) H := hP
        have hD : va_D A (wMn K hMn rMn0 rMn2 rMn3 rMn4 rMn5 rMn6 rMn7 rMn8 (hJo 99) rMn10 sMn ++ wJo K hJo rJo6 gJo4 hJi o3 ++ wJi K hJi sJi) := hD
        refine lv_aload_n hx hb dX10_back_29 rfl (lv_at hl 0 rfl) ?_
        obtain ⟨o4, go4, hf⟩ := bd_s hf
        refine rk_Vi (wn := wMn K hMn rMn0 rMn2 rMn3 rMn4 rMn5 rMn6 rMn7 rMn8 (hJo 99) rMn10 o4.2 ++ wJo K hJo rJo6 gJo4 hJi o3 ++ wJi K hJi sJi) [wMn K hMn rMn0 rMn2 rMn3 rMn4 rMn5 rMn6 rMn7 rMn8 (hJo 99) rMn10 sMn, wJo K hJo rJo6 gJo4 hJi o3, wJi K hJi sJi] [wMn K hMn rMn0 rMn2 rMn3 rMn4 rMn5 rMn6 rMn7 rMn8 (hJo 99) rMn10 sMn] [wMn K hMn rMn0 rMn2 rMn3 rMn4 rMn5 rMn6 rMn7 rMn8 (hJo 99) rMn10 o4.2] [wMn K hMn rMn0 rMn2 rMn3 rMn4 rMn5 rMn6 rMn7 rMn8 (hJo 99) rMn10 o4.2, wJo K hJo rJo6 gJo4 hJi o3, wJi K hJi sJi] (As := []) (rest := []) ⟨hx, hb, hml, hown, hts⟩ (c_X10_allow l D K F hMn rMn0 rMn2 rMn3 rMn4 rMn5 rMn6 rMn7 rMn8 (hJo 99) rMn10 H.size sMn o4 go4) (cwV 0 hts (gcV_X10_allow (mB29 _ (List.mem_of_getElem? (i := 4) rfl))) rfl rfl rfl hdV_X10_allow ⟨Nat.le_of_ble_eq_true rfl, Nat.le_of_ble_eq_true rfl⟩) hK hP hD hS hA [0] (fl3 _ _ _) rfl (by decide) (fl1 _) (fl1 _) rfl rfl (fl3 _ _ _) (va_recv hK hP (ci := 9) (q0 := 0) rfl (rwl (rwl o_Mn))) rfl hl.1 rfl (Nat.le_of_ble_eq_true rfl) dX10_back_30 ⟨Nat.zero_le _, Nat.zero_le _⟩ (fun H locs hP hD hS => ?_)
        have hP : va_P D vwCl (wMn K hMn rMn0 rMn2 rMn3 rMn4 rMn5 rMn6 rMn7 rMn8 (hJo 99) rMn10 o4.2 ++ wJo K hJo rJo6 gJo4 hJi o3 ++ wJi K hJi sJi) H := hP
        have hD : va_D A (wMn K hMn rMn0 rMn2 rMn3 rMn4 rMn5 rMn6 rMn7 rMn8 (hJo 99) rMn10 o4.2 ++ wJo K hJo rJo6 gJo4 hJi o3 ++ wJi K hJi sJi) := hD
        obtain ⟨g5, hf⟩ := gd_s hf
        have e9 := Option.some.inj hf
        rw [hQ]
        exact W.zret (v := o4.1) hx hb hr (bob_s g5) (fun t ht hW => ⟨⟨o4.1, (o4.2, o3), rfl, ⟨pr1 e9, pr2 e9⟩, ⟨by rw [ht]; exact hP, va_K.moved hW.alike hK, hD⟩⟩, hS.F ht⟩) hS.2.2 dX10_back_33
      · have hf := it_f hf c2
        exact w15 sMn sJo H locs ls hf hP hD hS (lv_sub hl [0] rfl)
  rw [hHe] at hgo
  exact hgo

theorem gcV_X9_sizeOf {T0 : Cond} {own : String} {i : Nat} (h : Cond.methodLink own i yX9_sizeOf ∈ wsL_law) : GoodIn (T0 :: wsL_law) (wsV own i RX9 yX9_sizeOf wz_X9_sizeOf) := gV h (mB67 _ (List.mem_of_getElem? (i := 15) rfl)) (mB67 _ (List.mem_of_getElem? (i := 16) rfl)) (mB1 _ (List.mem_of_getElem? (i := 17) rfl)) (mB67 _ (List.mem_of_getElem? (i := 17) rfl))
theorem hdV_X9_sizeOf : yX9_sizeOf.cls = RX9 ∧ yX9_sizeOf.cls ≠ "java/lang/invoke/MethodHandle" ∧ yX9_sizeOf.cls ≠ "java/lang/invoke/VarHandle" ∧ (parseMethodDescriptor yX9_sizeOf.desc).map (fun d => d.parameters.length) = some 1 := by decide +kernel
def wz_X10_size : List Cond := .code yX10_size cX10_size 2 (some .int) :: wsL_law
abbrev r_X10_size : Room := { frames := 1, cells := 0, slots := 0, locals := 21 }
set_option maxHeartbeats 4000000 in
set_option maxRecDepth 100000 in
theorem c_X10_size (l : Launch) (D : va_G) (K : Nat → ClassId) (F : Nat) (hMn : Nat → Nat) (rMn0 : Nat) (rMn3 : Nat) (rMn4 : Nat) (rMn5 : Nat) (rMn6 : Nat) (rMn7 : Nat) (rMn8 : Nat) (rMn10 : Nat) (hJo : Nat → Nat) (rJo6 : Nat) (gJo4 : Nat → Nat) (gJo5 : Nat → Nat) (hRo : Nat → Nat) (sMn : MS) (sJo : MS) (sRo : MS) (p1 : Int32) (res : Int32) (hf : f_X10_size F sMn sJo sRo p1 = some res) : Met l yX10_size wz_X10_size r_X10_size (va_Pc [.ref (hMn 99), .int p1] (PR D K (wMn K hMn rMn0 (hRo 99) rMn3 rMn4 rMn5 rMn6 rMn7 rMn8 (hJo 99) rMn10 sMn ++ wJo K hJo rJo6 gJo4 gJo5 sJo ++ wRo K hRo sRo))) (va_Qi (fun r (_ : Unit) => r = res) BN nOne) 0 0 nOne := by
  refine Met.ofW (cc := cX10_size) (maxL := 2) (ret := (some .int)) (by decide) rfl ?_
  intro p e s m args below meth c s₁ B hml hv
  obtain ⟨hargs, hP, hK⟩ := hv
  have hx := B.exec
  have hb := B.bytes
  have hr := B.returns
  have hts := atoms_spec (ws := wz_X10_size) B.pre
  have htl : ∀ w ∈ wsL_law, w.before args s = true := fun w h => hts w (List.mem_cons_of_mem _ h)
  have hown : s.vm.findClass RX10 = some m.cls := findClass_of_methodNamed B.named
  have hlocks := B.notSynchronized
  have hS : va_S nOne s.heap s.heap [] := va_S.rf
  have iX10 : ∀ w ∈ wsX100, w ∈ wz_X10_size := fun w h => List.mem_cons_of_mem _ (inlX10 w h)
  have iX3 : ∀ w ∈ wsX30, w ∈ wz_X10_size := fun w h => List.mem_cons_of_mem _ (inlX3 w h)
  suffices hgo : ∀ Q : State → Prop, Q = MQ below (va_Qi (fun r (_ : Unit) => r = res) BN nOne) args s 0 0 nOne → W p l e (headSpec wz_X10_size r_X10_size).room s m args below meth c s.heap [] 0 0 Q (entryFrame m args 2) from hgo _ rfl
  intro Q hQ
  have hen : entryFrame m args 2 = entryFrame m (([.ref (hMn 99), .int p1] : List Value).toArray) 2 := by rw [hargs]
  have hl := lv_entry ([.ref (hMn 99), .int p1]) (n := 2) (Nat.le_of_ble_eq_true rfl)
  rw [hen, lg_entry_eq]
  generalize (lg_sl ([.ref (hMn 99), .int p1]) ++ List.replicate (2 - (lg_sl ([.ref (hMn 99), .int p1])).length) Slot.unset).toArray = ls at hl ⊢
  have hl : lv_has ls 2 [(0, .ref (hMn 99)), (1, .int p1)] := hl
  unfold f_X10_size at hf
  obtain ⟨H, hHe⟩ : ∃ z, z = s.heap := ⟨_, rfl⟩
  obtain ⟨locs, hLe⟩ : ∃ z : List Loc, z = [] := ⟨_, rfl⟩
  rw [← hLe]
  have hS : va_S nOne s.heap H locs := by rw [hHe, hLe]; exact hS
  have hP : va_P D vwCl (wMn K hMn rMn0 (hRo 99) rMn3 rMn4 rMn5 rMn6 rMn7 rMn8 (hJo 99) rMn10 sMn ++ wJo K hJo rJo6 gJo4 gJo5 sJo ++ wRo K hRo sRo) H := by rw [hHe]; exact hP
  have hgo : W p l e (headSpec wz_X10_size r_X10_size).room s m args below meth c H locs 0 0 Q (F0 m 0 ls []) := by
    refine lv_iload_n hx hb dX10_size_0 rfl (lv_at hl 1 rfl) ?_
    by_cases c1 : p1 = (10 : Int32)
    · have hf := it_t hf c1
      refine lv_tableIn (tgt := 32) hx hb dX10_size_1 (by rw [c1]; decide) (by rw [c1]; decide) (off := 31) (by rw [c1]; rfl) (by decide) ?_
      refine lv_aload_n hx hb dX10_size_32 rfl (lv_at hl 0 rfl) ?_
      refine va_get (D := D) (ci := 9) (v := .ref (hJo 99)) (C := RX10) (T := TX10) (N := 14) hx hb hts iX10 hown hK hP 0 (rwl (rwl o_Mn)) rfl 9 (by decide) (htl _ (mB2 _ (List.mem_of_getElem? (i := 19) rfl))) (fun _ h9 => h9) rfl dX10_size_33 ?_
      refine va_get (D := D) (ci := 3) (v := .ref (hJo 0)) (C := RX3) (T := TX3) (N := 7) hx hb hts iX3 hown hK hP (1 + 0) (rwl (rwr ln_Mn o_Jo)) rfl 0 (by decide) (htl _ (mB61 _ (List.mem_of_getElem? (i := 22) rfl))) (fun _ h9 => h9) rfl dX10_size_36 ?_
      refine lv_bipush (v := (6 : Int32)) hx hb dX10_size_39 (by decide) ?_
      obtain ⟨g2, hf⟩ := gd_s hf
      refine va_iald hx hb hK hP (1 + 1) 0 (f := sJo.2.2.1 0) (rwl (rwr ln_Mn a_Jo_0)) rfl (vpb_in g2) dX10_size_41 ?_
      refine lv_topi (fun v3 ev3 => ?_)
      have hf := lz_s hf v3 ev3
      have e9 := Option.some.inj hf
      rw [hQ]
      exact W.iret (v := v3) hx hb hr (fun t ht hW => ⟨⟨v3, (), rfl, e9, trivial⟩, hS.F ht⟩) hS.2.2 dX10_size_42
    · have hf := it_f hf c1
      by_cases c4 : p1 = (11 : Int32)
      · have hf := it_t hf c4
        refine lv_tableIn (tgt := 43) hx hb dX10_size_1 (by rw [c4]; decide) (by rw [c4]; decide) (off := 42) (by rw [c4]; rfl) (by decide) ?_
        refine lv_aload_n hx hb dX10_size_43 rfl (lv_at hl 0 rfl) ?_
        refine va_get (D := D) (ci := 9) (v := .ref (hJo 99)) (C := RX10) (T := TX10) (N := 14) hx hb hts iX10 hown hK hP 0 (rwl (rwl o_Mn)) rfl 9 (by decide) (htl _ (mB2 _ (List.mem_of_getElem? (i := 19) rfl))) (fun _ h9 => h9) rfl dX10_size_44 ?_
        refine va_get (D := D) (ci := 3) (v := .int (sJo.1 1)) (C := RX3) (T := TX3) (N := 7) hx hb hts iX3 hown hK hP (1 + 0) (rwl (rwr ln_Mn o_Jo)) rfl 1 (by decide) (htl _ (mB64 _ (List.mem_of_getElem? (i := 23) rfl))) (fun _ h9 => h9) rfl dX10_size_47 ?_
        have e9 := Option.some.inj hf
        rw [hQ]
        exact W.iret (v := (sJo.1 1)) hx hb hr (fun t ht hW => ⟨⟨(sJo.1 1), (), rfl, e9, trivial⟩, hS.F ht⟩) hS.2.2 dX10_size_50
      · have hf := it_f hf c4
        by_cases c5 : p1 = (12 : Int32)
        · have hf := it_t hf c5
          refine lv_tableIn (tgt := 51) hx hb dX10_size_1 (by rw [c5]; decide) (by rw [c5]; decide) (off := 50) (by rw [c5]; rfl) (by decide) ?_
          refine lv_aload_n hx hb dX10_size_51 rfl (lv_at hl 0 rfl) ?_
          refine va_get (D := D) (ci := 9) (v := .ref (hJo 99)) (C := RX10) (T := TX10) (N := 14) hx hb hts iX10 hown hK hP 0 (rwl (rwl o_Mn)) rfl 9 (by decide) (htl _ (mB2 _ (List.mem_of_getElem? (i := 19) rfl))) (fun _ h9 => h9) rfl dX10_size_52 ?_
          refine va_get (D := D) (ci := 3) (v := .int (sJo.1 2)) (C := RX3) (T := TX3) (N := 7) hx hb hts iX3 hown hK hP (1 + 0) (rwl (rwr ln_Mn o_Jo)) rfl 2 (by decide) (htl _ (mB65 _ (List.mem_of_getElem? (i := 12) rfl))) (fun _ h9 => h9) rfl dX10_size_55 ?_
          have e9 := Option.some.inj hf
          rw [hQ]
          exact W.iret (v := (sJo.1 2)) hx hb hr (fun t ht hW => ⟨⟨(sJo.1 2), (), rfl, e9, trivial⟩, hS.F ht⟩) hS.2.2 dX10_size_58
        · have hf := it_f hf c5
          by_cases c6 : p1 = (13 : Int32)
          · have hf := it_t hf c6
            refine lv_tableIn (tgt := 59) hx hb dX10_size_1 (by rw [c6]; decide) (by rw [c6]; decide) (off := 58) (by rw [c6]; rfl) (by decide) ?_
            refine lv_aload_n hx hb dX10_size_59 rfl (lv_at hl 0 rfl) ?_
            refine va_get (D := D) (ci := 9) (v := .int (sMn.1 1)) (C := RX10) (T := TX10) (N := 14) hx hb hts iX10 hown hK hP 0 (rwl (rwl o_Mn)) rfl 1 (by decide) (htl _ (mB6 _ (List.mem_of_getElem? (i := 22) rfl))) (fun _ h9 => h9) rfl dX10_size_60 ?_
            have e9 := Option.some.inj hf
            rw [hQ]
            exact W.iret (v := (sMn.1 1)) hx hb hr (fun t ht hW => ⟨⟨(sMn.1 1), (), rfl, e9, trivial⟩, hS.F ht⟩) hS.2.2 dX10_size_63
          · have hf := it_f hf c6
            have nc1 := lv_neT c1 (show ((10 : Int32)).toInt = 10 from by decide)
            have nc4 := lv_neT c4 (show ((11 : Int32)).toInt = 11 from by decide)
            have nc5 := lv_neT c5 (show ((12 : Int32)).toInt = 12 from by decide)
            have nc6 := lv_neT c6 (show ((13 : Int32)).toInt = 13 from by decide)
            refine lv_tableOut (tgt := 64) hx hb dX10_size_1 (by omega) (by decide) ?_
            refine lv_aload_n hx hb dX10_size_64 rfl (lv_at hl 0 rfl) ?_
            refine va_get (D := D) (ci := 9) (v := .ref (hRo 99)) (C := RX10) (T := TX10) (N := 14) hx hb hts iX10 hown hK hP 0 (rwl (rwl o_Mn)) rfl 2 (by decide) (htl _ (mB1 _ (List.mem_of_getElem? (i := 18) rfl))) (fun _ h9 => h9) rfl dX10_size_65 ?_
            refine lv_iload_n hx hb dX10_size_68 rfl (lv_at hl 1 rfl) ?_
            obtain ⟨o7, go7, hf⟩ := bd_s hf
            refine ro_Vi (As := [.int p1]) (rest := []) ⟨hx, hb, hml, hown, hts⟩ (c_X9_sizeOf l D K F hRo sRo p1 o7 go7) (cwV 1 hts (gcV_X9_sizeOf (mB67 _ (List.mem_of_getElem? (i := 14) rfl))) rfl rfl rfl hdV_X9_sizeOf ⟨Nat.le_of_ble_eq_true rfl, Nat.le_of_ble_eq_true rfl⟩) hK hP hS (va_PL (cs := [wMn K hMn rMn0 (hRo 99) rMn3 rMn4 rMn5 rMn6 rMn7 rMn8 (hJo 99) rMn10 sMn, wJo K hJo rJo6 gJo4 gJo5 sJo, wRo K hRo sRo]) (cc := [wRo K hRo sRo]) hP (fl3 _ _ _) [2] rfl (fl1 _)) (va_recv hK hP (ci := 8) (q0 := ((1 + 4) + 0)) rfl (rwr (lnA ln_Mn ln_Jo) o_Ro)) rfl hl.1 rfl (Nat.le_of_ble_eq_true rfl) dX10_size_69 ⟨Nat.zero_le _, Nat.zero_le _⟩ (fun H locs hP hS => ?_)
            have e9 := Option.some.inj hf
            rw [hQ]
            exact W.iret (v := o7) hx hb hr (fun t ht hW => ⟨⟨o7, (), rfl, e9, trivial⟩, hS.F ht⟩) hS.2.2 dX10_size_72
  rw [hHe] at hgo
  exact hgo

def wz_X10_trouble : List Cond := .code yX10_trouble cX10_trouble 1 (some .int) :: wsL_law
abbrev r_X10_trouble : Room := { frames := 0, cells := 0, slots := 0, locals := 0 }
set_option maxHeartbeats 4000000 in
set_option maxRecDepth 100000 in
theorem c_X10_trouble (l : Launch) (D : va_G) (K : Nat → ClassId) (F : Nat) (hMn : Nat → Nat) (rMn0 : Nat) (rMn2 : Nat) (rMn3 : Nat) (rMn4 : Nat) (rMn5 : Nat) (rMn6 : Nat) (rMn7 : Nat) (rMn8 : Nat) (rMn9 : Nat) (rMn10 : Nat) (sMn : MS) (res : Int32) (hf : f_X10_trouble F sMn = some res) : Met l yX10_trouble wz_X10_trouble r_X10_trouble (va_Pc [.ref (hMn 99)] (PR D K (wMn K hMn rMn0 rMn2 rMn3 rMn4 rMn5 rMn6 rMn7 rMn8 rMn9 rMn10 sMn))) (va_Qi (fun r (_ : Unit) => r = res) BN nOne) 0 0 nOne := by
  refine Met.ofW (cc := cX10_trouble) (maxL := 1) (ret := (some .int)) (by decide) rfl ?_
  intro p e s m args below meth c s₁ B hml hv
  obtain ⟨hargs, hP, hK⟩ := hv
  have hx := B.exec
  have hb := B.bytes
  have hr := B.returns
  have hts := atoms_spec (ws := wz_X10_trouble) B.pre
  have htl : ∀ w ∈ wsL_law, w.before args s = true := fun w h => hts w (List.mem_cons_of_mem _ h)
  have hown : s.vm.findClass RX10 = some m.cls := findClass_of_methodNamed B.named
  have hlocks := B.notSynchronized
  have hS : va_S nOne s.heap s.heap [] := va_S.rf
  have iX10 : ∀ w ∈ wsX100, w ∈ wz_X10_trouble := fun w h => List.mem_cons_of_mem _ (inlX10 w h)
  suffices hgo : ∀ Q : State → Prop, Q = MQ below (va_Qi (fun r (_ : Unit) => r = res) BN nOne) args s 0 0 nOne → W p l e (headSpec wz_X10_trouble r_X10_trouble).room s m args below meth c s.heap [] 0 0 Q (entryFrame m args 1) from hgo _ rfl
  intro Q hQ
  have hen : entryFrame m args 1 = entryFrame m (([.ref (hMn 99)] : List Value).toArray) 1 := by rw [hargs]
  have hl := lv_entry ([.ref (hMn 99)]) (n := 1) (Nat.le_of_ble_eq_true rfl)
  rw [hen, lg_entry_eq]
  generalize (lg_sl ([.ref (hMn 99)]) ++ List.replicate (1 - (lg_sl ([.ref (hMn 99)])).length) Slot.unset).toArray = ls at hl ⊢
  have hl : lv_has ls 1 [(0, .ref (hMn 99))] := hl
  unfold f_X10_trouble at hf
  obtain ⟨H, hHe⟩ : ∃ z, z = s.heap := ⟨_, rfl⟩
  obtain ⟨locs, hLe⟩ : ∃ z : List Loc, z = [] := ⟨_, rfl⟩
  rw [← hLe]
  have hS : va_S nOne s.heap H locs := by rw [hHe, hLe]; exact hS
  have hP : va_P D vwCl (wMn K hMn rMn0 rMn2 rMn3 rMn4 rMn5 rMn6 rMn7 rMn8 rMn9 rMn10 sMn) H := by rw [hHe]; exact hP
  have hgo : W p l e (headSpec wz_X10_trouble r_X10_trouble).room s m args below meth c H locs 0 0 Q (F0 m 0 ls []) := by
    refine lv_aload_n hx hb dX10_trouble_0 rfl (lv_at hl 0 rfl) ?_
    refine va_get (D := D) (ci := 9) (v := .int (sMn.1 11)) (C := RX10) (T := TX10) (N := 14) hx hb hts iX10 hown hK hP 0 o_Mn rfl 11 (by decide) (htl _ (mB7 _ (List.mem_of_getElem? (i := 22) rfl))) (fun _ h9 => h9) rfl dX10_trouble_1 ?_
    have e9 := Option.some.inj hf
    rw [hQ]
    exact W.iret (v := (sMn.1 11)) hx hb hr (fun t ht hW => ⟨⟨(sMn.1 11), (), rfl, e9, trivial⟩, hS.F ht⟩) hS.2.2 dX10_trouble_4
  rw [hHe] at hgo
  exact hgo
