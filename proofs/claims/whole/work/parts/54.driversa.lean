theorem gcV_X9_hasPumpAt {T0 : Cond} {own : String} {i : Nat} (h : Cond.methodLink own i yX9_hasPumpAt ∈ wsL_law) : GoodIn (T0 :: wsL_law) (wsV own i RX9 yX9_hasPumpAt wz_X9_hasPumpAt) := gV h (mB30 _ (List.mem_of_getElem? (i := 9) rfl)) (mB30 _ (List.mem_of_getElem? (i := 10) rfl)) (mB1 _ (List.mem_of_getElem? (i := 17) rfl)) (mB30 _ (List.mem_of_getElem? (i := 11) rfl))
theorem hdV_X9_hasPumpAt : yX9_hasPumpAt.cls = RX9 ∧ yX9_hasPumpAt.cls ≠ "java/lang/invoke/MethodHandle" ∧ yX9_hasPumpAt.cls ≠ "java/lang/invoke/VarHandle" ∧ (parseMethodDescriptor yX9_hasPumpAt.desc).map (fun d => d.parameters.length) = some 1 := by decide +kernel
theorem gcV_X9_priceAt {T0 : Cond} {own : String} {i : Nat} (h : Cond.methodLink own i yX9_priceAt ∈ wsL_law) : GoodIn (T0 :: wsL_law) (wsV own i RX9 yX9_priceAt wz_X9_priceAt) := gV h (mB31 _ (List.mem_of_getElem? (i := 14) rfl)) (mB31 _ (List.mem_of_getElem? (i := 15) rfl)) (mB1 _ (List.mem_of_getElem? (i := 17) rfl)) (mB31 _ (List.mem_of_getElem? (i := 16) rfl))
theorem hdV_X9_priceAt : yX9_priceAt.cls = RX9 ∧ yX9_priceAt.cls ≠ "java/lang/invoke/MethodHandle" ∧ yX9_priceAt.cls ≠ "java/lang/invoke/VarHandle" ∧ (parseMethodDescriptor yX9_priceAt.desc).map (fun d => d.parameters.length) = some 2 := by decide +kernel
def wz_X1_nextCheaper : List Cond := .code yX1_nextCheaper cX1_nextCheaper 4 (some .int) :: wsL_law
abbrev r_X1_nextCheaper : Room := { frames := 1, cells := 0, slots := 0, locals := 22 }
set_option maxHeartbeats 4000000 in
set_option maxRecDepth 100000 in
theorem c_X1_nextCheaper (l : Launch) (D : va_G) (K : Nat → ClassId) (F : Nat) (hRo : Nat → Nat) (sRo : MS) (p1 : Int32) (p2 : Int32) (res : Int32) (hf : f_X1_nextCheaper F sRo p1 p2 = some res) : Met l yX1_nextCheaper wz_X1_nextCheaper r_X1_nextCheaper (va_Pc [.ref (hRo 99), .int p1, .int p2] (PR D K (wRo K hRo sRo))) (va_Qi (fun r (_ : Unit) => r = res) BN nOne) 0 0 nOne := by
  refine Met.ofW (cc := cX1_nextCheaper) (maxL := 4) (ret := (some .int)) (by decide) rfl ?_
  intro p e s m args below meth c s₁ B hml hv
  obtain ⟨hargs, hP, hK⟩ := hv
  have hx := B.exec
  have hb := B.bytes
  have hr := B.returns
  have hts := atoms_spec (ws := wz_X1_nextCheaper) B.pre
  have htl : ∀ w ∈ wsL_law, w.before args s = true := fun w h => hts w (List.mem_cons_of_mem _ h)
  have hown : s.vm.findClass RX1 = some m.cls := findClass_of_methodNamed B.named
  have hlocks := B.notSynchronized
  have hS : va_S nOne s.heap s.heap [] := va_S.rf
  have iX9 : ∀ w ∈ wsX90, w ∈ wz_X1_nextCheaper := fun w h => List.mem_cons_of_mem _ (inlX9 w h)
  suffices hgo : ∀ Q : State → Prop, Q = MQ below (va_Qi (fun r (_ : Unit) => r = res) BN nOne) args s 0 0 nOne → W p l e (headSpec wz_X1_nextCheaper r_X1_nextCheaper).room s m args below meth c s.heap [] 0 0 Q (entryFrame m args 4) from hgo _ rfl
  intro Q hQ
  have w40 : ∀ (H : Heap) (locs : List Loc) (ls : Array Slot), f_X1_nextCheaper_40 F sRo p1 p2  = some res → va_P D vwCl (wRo K hRo sRo) H → va_S nOne s.heap H locs → lv_has ls 4 [(0, .ref (hRo 99))] → W p l e (headSpec wz_X1_nextCheaper r_X1_nextCheaper).room s m args below meth c H locs 0 0 Q (F0 m 40 ls []) := by
    intro  H locs ls hf hP hS hl
    unfold f_X1_nextCheaper_40 at hf
    refine lv_aload_n hx hb dX1_nextCheaper_40 rfl (lv_at hl 0 rfl) ?_
    refine va_get (D := D) (ci := 8) (v := .int (sRo.1 8)) (C := RX9) (T := TX9) (N := 19) hx hb hts iX9 hown hK hP 0 o_Ro rfl 8 (by decide) (htl _ (mB39 _ (List.mem_of_getElem? (i := 17) rfl))) (fun _ h9 => h9) rfl dX1_nextCheaper_41 ?_
    refine lv_iconst (v := (1 : Int32)) hx hb dX1_nextCheaper_44 (by decide) ?_
    refine lv_isub hx hb dX1_nextCheaper_45 ?_
    have e9 := Option.some.inj hf
    rw [hQ]
    exact W.iret (v := ((sRo.1 8) - (1 : Int32))) hx hb hr (fun t ht hW => ⟨⟨((sRo.1 8) - (1 : Int32)), (), rfl, e9, trivial⟩, hS.F ht⟩) hS.2.2 dX1_nextCheaper_46
  have w34 : ∀ (k4 : Int32 → Option Int32), (∀ (x3 : Int32), ∀ (H : Heap) (locs : List Loc) (ls : Array Slot), k4 x3 = some res → va_P D vwCl (wRo K hRo sRo) H → va_S nOne s.heap H locs → lv_has ls 4 [(0, .ref (hRo 99)), (2, .int p2), (3, .int x3)] → W p l e (headSpec wz_X1_nextCheaper r_X1_nextCheaper).room s m args below meth c H locs 0 0 Q (F0 m 4 ls [])) → ∀ (x3 : Int32), ∀ (H : Heap) (locs : List Loc) (ls : Array Slot), f_X1_nextCheaper_34 F sRo p1 p2 k4 x3 = some res → va_P D vwCl (wRo K hRo sRo) H → va_S nOne s.heap H locs → lv_has ls 4 [(0, .ref (hRo 99)), (2, .int p2), (3, .int x3)] → W p l e (headSpec wz_X1_nextCheaper r_X1_nextCheaper).room s m args below meth c H locs 0 0 Q (F0 m 34 ls []) := by
    intro k4 hk4 x3 H locs ls hf hP hS hl
    unfold f_X1_nextCheaper_34 at hf
    obtain ⟨v6, ev6⟩ : ∃ z : Int32, z = x3 + (1 : Int32) := ⟨_, rfl⟩
    have hf := lz_s hf v6 ev6
    refine lv_iinc (v := v6) (lv' := [(3, .int v6), (0, .ref (hRo 99)), (2, .int p2)]) hx hb dX1_nextCheaper_34 hl (k := 2) rfl (by rw [ev6]; rfl) (by decide) rfl (fun ls hl => ?_)
    refine lv_goto (tgt := 4) hx hb dX1_nextCheaper_37 (by decide) ?_
    exact hk4 v6 H locs ls hf hP hS (lv_sub hl [1, 2, 0] rfl)
  have w4 : ∀ (n : Nat), ∀ (x3 : Int32), ∀ (H : Heap) (locs : List Loc) (ls : Array Slot), f_X1_nextCheaper_4 F sRo p1 p2 n x3 = some res → va_P D vwCl (wRo K hRo sRo) H → va_S nOne s.heap H locs → lv_has ls 4 [(0, .ref (hRo 99)), (2, .int p2), (3, .int x3)] → W p l e (headSpec wz_X1_nextCheaper r_X1_nextCheaper).room s m args below meth c H locs 0 0 Q (F0 m 4 ls []) := by
    intro n
    induction n with
    | zero =>
      intro x3 H locs ls hf
      exact absurd (show none = some res from hf) (fun h => nomatch h)
    | succ n ih =>
      intro x3 H locs ls hf hP hS hl
      rw [f_X1_nextCheaper_4] at hf
      refine lv_iload_n hx hb dX1_nextCheaper_4 rfl (lv_at hl 2 rfl) ?_
      refine lv_aload_n hx hb dX1_nextCheaper_5 rfl (lv_at hl 0 rfl) ?_
      refine va_get (D := D) (ci := 8) (v := .int (sRo.1 8)) (C := RX9) (T := TX9) (N := 19) hx hb hts iX9 hown hK hP 0 o_Ro rfl 8 (by decide) (htl _ (mB39 _ (List.mem_of_getElem? (i := 17) rfl))) (fun _ h9 => h9) rfl dX1_nextCheaper_6 ?_
      refine lv_iconst (v := (1 : Int32)) hx hb dX1_nextCheaper_9 (by decide) ?_
      refine lv_isub hx hb dX1_nextCheaper_10 ?_
      refine lv_icmp_ge (tgt := 40) hx hb dX1_nextCheaper_11 (by decide) (fun c1 => ?_) (fun c1 => ?_)
      · have hf := it_t hf c1
        exact w40  H locs ls hf hP hS (lv_sub hl [0] rfl)
      · have hf := it_f hf c1
        refine lv_aload_n hx hb dX1_nextCheaper_14 rfl (lv_at hl 0 rfl) ?_
        refine lv_iload_n hx hb dX1_nextCheaper_15 rfl (lv_at hl 2 rfl) ?_
        obtain ⟨o2, go2, hf⟩ := bd_s hf
        refine ro_Vi (As := [.int x3]) (rest := []) ⟨hx, hb, hml, hown, hts⟩ (c_X9_hasPumpAt l D K F hRo sRo x3 o2 go2) (cwV 1 hts (gcV_X9_hasPumpAt (mB39 _ (List.mem_of_getElem? (i := 18) rfl))) rfl rfl rfl hdV_X9_hasPumpAt ⟨Nat.le_of_ble_eq_true rfl, Nat.le_of_ble_eq_true rfl⟩) hK hP hS hP (va_recv hK hP (ci := 8) (q0 := 0) rfl o_Ro) rfl hl.1 rfl (Nat.le_of_ble_eq_true rfl) dX1_nextCheaper_16 ⟨Nat.zero_le _, Nat.zero_le _⟩ (fun H locs hP hS => ?_)
        refine lv_if_eq (tgt := 34) hx hb dX1_nextCheaper_19 (by decide) (fun c3 => ?_) (fun c3 => ?_)
        · have hf := it_t hf c3
          exact w34 (f_X1_nextCheaper_4 F sRo p1 p2 n) ih x3 H locs ls hf hP hS (lv_sub hl [0, 1, 2] rfl)
        · have hf := it_f hf c3
          refine lv_aload_n hx hb dX1_nextCheaper_22 rfl (lv_at hl 0 rfl) ?_
          refine lv_iload_n hx hb dX1_nextCheaper_23 rfl (lv_at hl 2 rfl) ?_
          refine lv_iconst (v := (0 : Int32)) hx hb dX1_nextCheaper_24 (by decide) ?_
          obtain ⟨o4, go4, hf⟩ := bd_s hf
          refine ro_Vi (As := [.int x3, .int (0 : Int32)]) (rest := []) ⟨hx, hb, hml, hown, hts⟩ (c_X9_priceAt l D K F hRo sRo x3 (0 : Int32) o4 go4) (cwV 2 hts (gcV_X9_priceAt (mB39 _ (List.mem_of_getElem? (i := 19) rfl))) rfl rfl rfl hdV_X9_priceAt ⟨Nat.le_of_ble_eq_true rfl, Nat.le_of_ble_eq_true rfl⟩) hK hP hS hP (va_recv hK hP (ci := 8) (q0 := 0) rfl o_Ro) rfl hl.1 rfl (Nat.le_of_ble_eq_true rfl) dX1_nextCheaper_25 ⟨Nat.zero_le _, Nat.zero_le _⟩ (fun H locs hP hS => ?_)
          refine lv_iload_n hx hb dX1_nextCheaper_28 rfl (lv_at hl 1 rfl) ?_
          refine lv_icmp_ge (tgt := 34) hx hb dX1_nextCheaper_29 (by decide) (fun c5 => ?_) (fun c5 => ?_)
          · have hf := it_t hf c5
            exact w34 (f_X1_nextCheaper_4 F sRo p1 p2 n) ih x3 H locs ls hf hP hS (lv_sub hl [0, 1, 2] rfl)
          · have hf := it_f hf c5
            refine lv_iload_n hx hb dX1_nextCheaper_32 rfl (lv_at hl 2 rfl) ?_
            have e9 := Option.some.inj hf
            rw [hQ]
            exact W.iret (v := x3) hx hb hr (fun t ht hW => ⟨⟨x3, (), rfl, e9, trivial⟩, hS.F ht⟩) hS.2.2 dX1_nextCheaper_33
  have hen : entryFrame m args 4 = entryFrame m (([.ref (hRo 99), .int p1, .int p2] : List Value).toArray) 4 := by rw [hargs]
  have hl := lv_entry ([.ref (hRo 99), .int p1, .int p2]) (n := 4) (Nat.le_of_ble_eq_true rfl)
  rw [hen, lg_entry_eq]
  generalize (lg_sl ([.ref (hRo 99), .int p1, .int p2]) ++ List.replicate (4 - (lg_sl ([.ref (hRo 99), .int p1, .int p2])).length) Slot.unset).toArray = ls at hl ⊢
  have hl : lv_has ls 4 [(0, .ref (hRo 99)), (1, .int p1), (2, .int p2)] := hl
  unfold f_X1_nextCheaper at hf
  obtain ⟨H, hHe⟩ : ∃ z, z = s.heap := ⟨_, rfl⟩
  obtain ⟨locs, hLe⟩ : ∃ z : List Loc, z = [] := ⟨_, rfl⟩
  rw [← hLe]
  have hS : va_S nOne s.heap H locs := by rw [hHe, hLe]; exact hS
  have hP : va_P D vwCl (wRo K hRo sRo) H := by rw [hHe]; exact hP
  have hgo : W p l e (headSpec wz_X1_nextCheaper r_X1_nextCheaper).room s m args below meth c H locs 0 0 Q (F0 m 0 ls []) := by
    refine lv_iload_n hx hb dX1_nextCheaper_0 rfl (lv_at hl 1 rfl) ?_
    refine lv_iconst (v := (1 : Int32)) hx hb dX1_nextCheaper_1 (by decide) ?_
    refine lv_iadd hx hb dX1_nextCheaper_2 ?_
    refine lv_istore_n (lv' := [(3, .int (p1 + (1 : Int32))), (0, .ref (hRo 99)), (1, .int p1), (2, .int p2)]) hx hb dX1_nextCheaper_3 rfl hl (by decide) rfl (fun ls hl => ?_)
    exact w4 F (p1 + (1 : Int32)) H locs ls hf hP hS (lv_sub hl [1, 3, 0] rfl)
  rw [hHe] at hgo
  exact hgo

def wz_X1_pintsTo : List Cond := .code yX1_pintsTo cX1_pintsTo 5 (some .int) :: wsL_law
abbrev r_X1_pintsTo : Room := { frames := 1, cells := 0, slots := 0, locals := 21 }
set_option maxHeartbeats 4000000 in
set_option maxRecDepth 100000 in
theorem c_X1_pintsTo (l : Launch) (D : va_G) (K : Nat → ClassId) (F : Nat) (hRo : Nat → Nat) (sRo : MS) (p1 : Int32) (p2 : Int32) (p3 : Int32) (res : Int32) (hf : f_X1_pintsTo F sRo p1 p2 p3 = some res) : Met l yX1_pintsTo wz_X1_pintsTo r_X1_pintsTo (va_Pc [.ref (hRo 99), .int p1, .int p2, .int p3] (PR D K (wRo K hRo sRo))) (va_Qi (fun r (_ : Unit) => r = res) BN nOne) 0 0 nOne := by
  refine Met.ofW (cc := cX1_pintsTo) (maxL := 5) (ret := (some .int)) (by decide) rfl ?_
  intro p e s m args below meth c s₁ B hml hv
  obtain ⟨hargs, hP, hK⟩ := hv
  have hx := B.exec
  have hb := B.bytes
  have hr := B.returns
  have hts := atoms_spec (ws := wz_X1_pintsTo) B.pre
  have htl : ∀ w ∈ wsL_law, w.before args s = true := fun w h => hts w (List.mem_cons_of_mem _ h)
  have hown : s.vm.findClass RX1 = some m.cls := findClass_of_methodNamed B.named
  have hlocks := B.notSynchronized
  have hS : va_S nOne s.heap s.heap [] := va_S.rf
  have iX9 : ∀ w ∈ wsX90, w ∈ wz_X1_pintsTo := fun w h => List.mem_cons_of_mem _ (inlX9 w h)
  suffices hgo : ∀ Q : State → Prop, Q = MQ below (va_Qi (fun r (_ : Unit) => r = res) BN nOne) args s 0 0 nOne → W p l e (headSpec wz_X1_pintsTo r_X1_pintsTo).room s m args below meth c s.heap [] 0 0 Q (entryFrame m args 5) from hgo _ rfl
  intro Q hQ
  have hen : entryFrame m args 5 = entryFrame m (([.ref (hRo 99), .int p1, .int p2, .int p3] : List Value).toArray) 5 := by rw [hargs]
  have hl := lv_entry ([.ref (hRo 99), .int p1, .int p2, .int p3]) (n := 5) (Nat.le_of_ble_eq_true rfl)
  rw [hen, lg_entry_eq]
  generalize (lg_sl ([.ref (hRo 99), .int p1, .int p2, .int p3]) ++ List.replicate (5 - (lg_sl ([.ref (hRo 99), .int p1, .int p2, .int p3])).length) Slot.unset).toArray = ls at hl ⊢
  have hl : lv_has ls 5 [(0, .ref (hRo 99)), (1, .int p1), (2, .int p2), (3, .int p3)] := hl
  unfold f_X1_pintsTo at hf
  obtain ⟨H, hHe⟩ : ∃ z, z = s.heap := ⟨_, rfl⟩
  obtain ⟨locs, hLe⟩ : ∃ z : List Loc, z = [] := ⟨_, rfl⟩
  rw [← hLe]
  have hS : va_S nOne s.heap H locs := by rw [hHe, hLe]; exact hS
  have hP : va_P D vwCl (wRo K hRo sRo) H := by rw [hHe]; exact hP
  have hgo : W p l e (headSpec wz_X1_pintsTo r_X1_pintsTo).room s m args below meth c H locs 0 0 Q (F0 m 0 ls []) := by
    refine lv_aload_n hx hb dX1_pintsTo_0 rfl (lv_at hl 0 rfl) ?_
    refine va_get (D := D) (ci := 8) (v := .ref (hRo 16)) (C := RX9) (T := TX9) (N := 19) hx hb hts iX9 hown hK hP 0 o_Ro rfl 16 (by decide) (htl _ (mB39 _ (List.mem_of_getElem? (i := 23) rfl))) (fun _ h9 => h9) rfl dX1_pintsTo_1 ?_
    refine lv_iload_n hx hb dX1_pintsTo_4 rfl (lv_at hl 2 rfl) ?_
    obtain ⟨g1, hf⟩ := gd_s hf
    refine va_iald hx hb hK hP 7 0 (f := sRo.2.2.1 16) a_Ro_16 rfl (vpb_in g1) dX1_pintsTo_5 ?_
    refine lv_topi (fun v2 ev2 => ?_)
    have hf := lz_s hf v2 ev2
    refine lv_aload_n hx hb dX1_pintsTo_6 rfl (lv_at hl 0 rfl) ?_
    refine va_get (D := D) (ci := 8) (v := .ref (hRo 16)) (C := RX9) (T := TX9) (N := 19) hx hb hts iX9 hown hK hP 0 o_Ro rfl 16 (by decide) (htl _ (mB39 _ (List.mem_of_getElem? (i := 23) rfl))) (fun _ h9 => h9) rfl dX1_pintsTo_7 ?_
    refine lv_iload_n hx hb dX1_pintsTo_10 rfl (lv_at hl 1 rfl) ?_
    obtain ⟨g3, hf⟩ := gd_s hf
    refine va_iald hx hb hK hP 7 0 (f := sRo.2.2.1 16) a_Ro_16 rfl (vpb_in g3) dX1_pintsTo_11 ?_
    refine lv_topi (fun v4 ev4 => ?_)
    have hf := lz_s hf v4 ev4
    refine lv_isub hx hb dX1_pintsTo_12 ?_
    refine lv_istore (lv' := [(4, .int (v2 - v4)), (0, .ref (hRo 99)), (1, .int p1), (2, .int p2), (3, .int p3)]) hx hb dX1_pintsTo_13 hl (by decide) rfl (fun ls hl => ?_)
    refine lv_iload hx hb dX1_pintsTo_15 (lv_at hl 0 rfl) ?_
    refine lv_aload_n hx hb dX1_pintsTo_17 rfl (lv_at hl 1 rfl) ?_
    refine va_get (D := D) (ci := 8) (v := .int (sRo.1 0)) (C := RX9) (T := TX9) (N := 19) hx hb hts iX9 hown hK hP 0 o_Ro rfl 0 (by decide) (htl _ (mB39 _ (List.mem_of_getElem? (i := 13) rfl))) (fun _ h9 => h9) rfl dX1_pintsTo_18 ?_
    refine lv_icmp_gt (tgt := 35) hx hb dX1_pintsTo_21 (by decide) (fun c5 => ?_) (fun c5 => ?_)
    · have hf := it_t hf c5
      refine lv_aload_n hx hb dX1_pintsTo_35 rfl (lv_at hl 1 rfl) ?_
      refine va_get (D := D) (ci := 8) (v := .int (sRo.1 0)) (C := RX9) (T := TX9) (N := 19) hx hb hts iX9 hown hK hP 0 o_Ro rfl 0 (by decide) (htl _ (mB39 _ (List.mem_of_getElem? (i := 13) rfl))) (fun _ h9 => h9) rfl dX1_pintsTo_36 ?_
      refine lv_iload_n hx hb dX1_pintsTo_39 rfl (lv_at hl 4 rfl) ?_
      refine lv_isub hx hb dX1_pintsTo_40 ?_
      have e9 := Option.some.inj hf
      rw [hQ]
      exact W.iret (v := ((sRo.1 0) - p3)) hx hb hr (fun t ht hW => ⟨⟨((sRo.1 0) - p3), (), rfl, e9, trivial⟩, hS.F ht⟩) hS.2.2 dX1_pintsTo_41
    · have hf := it_f hf c5
      refine lv_iconst (v := (0 : Int32)) hx hb dX1_pintsTo_24 (by decide) ?_
      refine lv_iload hx hb dX1_pintsTo_25 (lv_at hl 0 rfl) ?_
      refine lv_iload_n hx hb dX1_pintsTo_27 rfl (lv_at hl 4 rfl) ?_
      refine lv_isub hx hb dX1_pintsTo_28 ?_
      refine va_mmax hx hb (hml.trans hl.1.symm) hown (htl _ (mB40 _ (List.mem_of_getElem? (i := 0) rfl))) (htl _ (mB9 _ (List.mem_of_getElem? (i := 8) rfl))) (htl _ (mB9 _ (List.mem_of_getElem? (i := 9) rfl))) (htl _ (mB9 _ (List.mem_of_getElem? (i := 10) rfl))) (Nat.le_of_ble_eq_true rfl) (Nat.le_of_ble_eq_true rfl) (Nat.zero_le _) (Nat.zero_le _) dX1_pintsTo_29 ?_
      refine lv_topi (fun v6 ev6 => ?_)
      have hf := lz_s hf v6 ev6
      refine lv_goto (tgt := 41) hx hb dX1_pintsTo_32 (by decide) ?_
      have e9 := Option.some.inj hf
      rw [hQ]
      exact W.iret (v := v6) hx hb hr (fun t ht hW => ⟨⟨v6, (), rfl, e9, trivial⟩, hS.F ht⟩) hS.2.2 dX1_pintsTo_41
  rw [hHe] at hgo
  exact hgo

def wz_X1_nextPump : List Cond := .code yX1_nextPump cX1_nextPump 3 (some .int) :: wsL_law
abbrev r_X1_nextPump : Room := { frames := 1, cells := 0, slots := 0, locals := 21 }
set_option maxHeartbeats 4000000 in
set_option maxRecDepth 100000 in
theorem c_X1_nextPump (l : Launch) (D : va_G) (K : Nat → ClassId) (F : Nat) (hRo : Nat → Nat) (sRo : MS) (p1 : Int32) (res : Int32) (hf : f_X1_nextPump F sRo p1 = some res) : Met l yX1_nextPump wz_X1_nextPump r_X1_nextPump (va_Pc [.ref (hRo 99), .int p1] (PR D K (wRo K hRo sRo))) (va_Qi (fun r (_ : Unit) => r = res) BN nOne) 0 0 nOne := by
  refine Met.ofW (cc := cX1_nextPump) (maxL := 3) (ret := (some .int)) (by decide) rfl ?_
  intro p e s m args below meth c s₁ B hml hv
  obtain ⟨hargs, hP, hK⟩ := hv
  have hx := B.exec
  have hb := B.bytes
  have hr := B.returns
  have hts := atoms_spec (ws := wz_X1_nextPump) B.pre
  have htl : ∀ w ∈ wsL_law, w.before args s = true := fun w h => hts w (List.mem_cons_of_mem _ h)
  have hown : s.vm.findClass RX1 = some m.cls := findClass_of_methodNamed B.named
  have hlocks := B.notSynchronized
  have hS : va_S nOne s.heap s.heap [] := va_S.rf
  have iX9 : ∀ w ∈ wsX90, w ∈ wz_X1_nextPump := fun w h => List.mem_cons_of_mem _ (inlX9 w h)
  suffices hgo : ∀ Q : State → Prop, Q = MQ below (va_Qi (fun r (_ : Unit) => r = res) BN nOne) args s 0 0 nOne → W p l e (headSpec wz_X1_nextPump r_X1_nextPump).room s m args below meth c s.heap [] 0 0 Q (entryFrame m args 3) from hgo _ rfl
  intro Q hQ
  have w30 : ∀ (H : Heap) (locs : List Loc) (ls : Array Slot), f_X1_nextPump_30 F sRo p1  = some res → va_P D vwCl (wRo K hRo sRo) H → va_S nOne s.heap H locs → lv_has ls 3 [(0, .ref (hRo 99))] → W p l e (headSpec wz_X1_nextPump r_X1_nextPump).room s m args below meth c H locs 0 0 Q (F0 m 30 ls []) := by
    intro  H locs ls hf hP hS hl
    unfold f_X1_nextPump_30 at hf
    refine lv_aload_n hx hb dX1_nextPump_30 rfl (lv_at hl 0 rfl) ?_
    refine va_get (D := D) (ci := 8) (v := .int (sRo.1 8)) (C := RX9) (T := TX9) (N := 19) hx hb hts iX9 hown hK hP 0 o_Ro rfl 8 (by decide) (htl _ (mB39 _ (List.mem_of_getElem? (i := 17) rfl))) (fun _ h9 => h9) rfl dX1_nextPump_31 ?_
    refine lv_iconst (v := (1 : Int32)) hx hb dX1_nextPump_34 (by decide) ?_
    refine lv_isub hx hb dX1_nextPump_35 ?_
    have e9 := Option.some.inj hf
    rw [hQ]
    exact W.iret (v := ((sRo.1 8) - (1 : Int32))) hx hb hr (fun t ht hW => ⟨⟨((sRo.1 8) - (1 : Int32)), (), rfl, e9, trivial⟩, hS.F ht⟩) hS.2.2 dX1_nextPump_36
  have w4 : ∀ (n : Nat), ∀ (x2 : Int32), ∀ (H : Heap) (locs : List Loc) (ls : Array Slot), f_X1_nextPump_4 F sRo p1 n x2 = some res → va_P D vwCl (wRo K hRo sRo) H → va_S nOne s.heap H locs → lv_has ls 3 [(0, .ref (hRo 99)), (2, .int x2)] → W p l e (headSpec wz_X1_nextPump r_X1_nextPump).room s m args below meth c H locs 0 0 Q (F0 m 4 ls []) := by
    intro n
    induction n with
    | zero =>
      intro x2 H locs ls hf
      exact absurd (show none = some res from hf) (fun h => nomatch h)
    | succ n ih =>
      intro x2 H locs ls hf hP hS hl
      rw [f_X1_nextPump_4] at hf
      refine lv_iload_n hx hb dX1_nextPump_4 rfl (lv_at hl 1 rfl) ?_
      refine lv_aload_n hx hb dX1_nextPump_5 rfl (lv_at hl 0 rfl) ?_
      refine va_get (D := D) (ci := 8) (v := .int (sRo.1 8)) (C := RX9) (T := TX9) (N := 19) hx hb hts iX9 hown hK hP 0 o_Ro rfl 8 (by decide) (htl _ (mB39 _ (List.mem_of_getElem? (i := 17) rfl))) (fun _ h9 => h9) rfl dX1_nextPump_6 ?_
      refine lv_iconst (v := (1 : Int32)) hx hb dX1_nextPump_9 (by decide) ?_
      refine lv_isub hx hb dX1_nextPump_10 ?_
      refine lv_icmp_ge (tgt := 30) hx hb dX1_nextPump_11 (by decide) (fun c1 => ?_) (fun c1 => ?_)
      · have hf := it_t hf c1
        exact w30  H locs ls hf hP hS (lv_sub hl [0] rfl)
      · have hf := it_f hf c1
        refine lv_aload_n hx hb dX1_nextPump_14 rfl (lv_at hl 0 rfl) ?_
        refine lv_iload_n hx hb dX1_nextPump_15 rfl (lv_at hl 1 rfl) ?_
        obtain ⟨o2, go2, hf⟩ := bd_s hf
        refine ro_Vi (As := [.int x2]) (rest := []) ⟨hx, hb, hml, hown, hts⟩ (c_X9_hasPumpAt l D K F hRo sRo x2 o2 go2) (cwV 1 hts (gcV_X9_hasPumpAt (mB39 _ (List.mem_of_getElem? (i := 18) rfl))) rfl rfl rfl hdV_X9_hasPumpAt ⟨Nat.le_of_ble_eq_true rfl, Nat.le_of_ble_eq_true rfl⟩) hK hP hS hP (va_recv hK hP (ci := 8) (q0 := 0) rfl o_Ro) rfl hl.1 rfl (Nat.le_of_ble_eq_true rfl) dX1_nextPump_16 ⟨Nat.zero_le _, Nat.zero_le _⟩ (fun H locs hP hS => ?_)
        refine lv_if_eq (tgt := 24) hx hb dX1_nextPump_19 (by decide) (fun c3 => ?_) (fun c3 => ?_)
        · have hf := it_t hf c3
          obtain ⟨v4, ev4⟩ : ∃ z : Int32, z = x2 + (1 : Int32) := ⟨_, rfl⟩
          have hf := lz_s hf v4 ev4
          refine lv_iinc (v := v4) (lv' := [(2, .int v4), (0, .ref (hRo 99))]) hx hb dX1_nextPump_24 hl (k := 1) rfl (by rw [ev4]; rfl) (by decide) rfl (fun ls hl => ?_)
          refine lv_goto (tgt := 4) hx hb dX1_nextPump_27 (by decide) ?_
          exact ih v4 H locs ls hf hP hS (lv_sub hl [1, 0] rfl)
        · have hf := it_f hf c3
          refine lv_iload_n hx hb dX1_nextPump_22 rfl (lv_at hl 1 rfl) ?_
          have e9 := Option.some.inj hf
          rw [hQ]
          exact W.iret (v := x2) hx hb hr (fun t ht hW => ⟨⟨x2, (), rfl, e9, trivial⟩, hS.F ht⟩) hS.2.2 dX1_nextPump_23
  have hen : entryFrame m args 3 = entryFrame m (([.ref (hRo 99), .int p1] : List Value).toArray) 3 := by rw [hargs]
  have hl := lv_entry ([.ref (hRo 99), .int p1]) (n := 3) (Nat.le_of_ble_eq_true rfl)
  rw [hen, lg_entry_eq]
  generalize (lg_sl ([.ref (hRo 99), .int p1]) ++ List.replicate (3 - (lg_sl ([.ref (hRo 99), .int p1])).length) Slot.unset).toArray = ls at hl ⊢
  have hl : lv_has ls 3 [(0, .ref (hRo 99)), (1, .int p1)] := hl
  unfold f_X1_nextPump at hf
  obtain ⟨H, hHe⟩ : ∃ z, z = s.heap := ⟨_, rfl⟩
  obtain ⟨locs, hLe⟩ : ∃ z : List Loc, z = [] := ⟨_, rfl⟩
  rw [← hLe]
  have hS : va_S nOne s.heap H locs := by rw [hHe, hLe]; exact hS
  have hP : va_P D vwCl (wRo K hRo sRo) H := by rw [hHe]; exact hP
  have hgo : W p l e (headSpec wz_X1_nextPump r_X1_nextPump).room s m args below meth c H locs 0 0 Q (F0 m 0 ls []) := by
    refine lv_iload_n hx hb dX1_nextPump_0 rfl (lv_at hl 1 rfl) ?_
    refine lv_iconst (v := (1 : Int32)) hx hb dX1_nextPump_1 (by decide) ?_
    refine lv_iadd hx hb dX1_nextPump_2 ?_
    refine lv_istore_n (lv' := [(2, .int (p1 + (1 : Int32))), (0, .ref (hRo 99)), (1, .int p1)]) hx hb dX1_nextPump_3 rfl hl (by decide) rfl (fun ls hl => ?_)
    exact w4 F (p1 + (1 : Int32)) H locs ls hf hP hS (lv_sub hl [1, 0] rfl)
  rw [hHe] at hgo
  exact hgo

theorem gcS_X1_nextCheaper {T0 : Cond} {own : String} {i : Nat} (h : Cond.methodLink own i yX1_nextCheaper ∈ wsL_law) : GoodIn (T0 :: wsL_law) (va_wsS own i yX1_nextCheaper wz_X1_nextCheaper) := gS h (mB39 _ (List.mem_of_getElem? (i := 15) rfl)) (mB2 _ (List.mem_of_getElem? (i := 6) rfl)) (mB39 _ (List.mem_of_getElem? (i := 16) rfl))
theorem hdS_X1_nextCheaper : yX1_nextCheaper.cls ≠ "java/lang/invoke/MethodHandle" ∧ yX1_nextCheaper.cls ≠ "java/lang/invoke/VarHandle" ∧ (parseMethodDescriptor yX1_nextCheaper.desc).map (fun d => d.parameters.length) = some 3 := by decide +kernel
theorem gcS_X1_pintsTo {T0 : Cond} {own : String} {i : Nat} (h : Cond.methodLink own i yX1_pintsTo ∈ wsL_law) : GoodIn (T0 :: wsL_law) (va_wsS own i yX1_pintsTo wz_X1_pintsTo) := gS h (mB39 _ (List.mem_of_getElem? (i := 21) rfl)) (mB2 _ (List.mem_of_getElem? (i := 6) rfl)) (mB39 _ (List.mem_of_getElem? (i := 22) rfl))
theorem hdS_X1_pintsTo : yX1_pintsTo.cls ≠ "java/lang/invoke/MethodHandle" ∧ yX1_pintsTo.cls ≠ "java/lang/invoke/VarHandle" ∧ (parseMethodDescriptor yX1_pintsTo.desc).map (fun d => d.parameters.length) = some 4 := by decide +kernel
theorem gcS_X1_nextPump {T0 : Cond} {own : String} {i : Nat} (h : Cond.methodLink own i yX1_nextPump ∈ wsL_law) : GoodIn (T0 :: wsL_law) (va_wsS own i yX1_nextPump wz_X1_nextPump) := gS h (mB40 _ (List.mem_of_getElem? (i := 2) rfl)) (mB2 _ (List.mem_of_getElem? (i := 6) rfl)) (mB40 _ (List.mem_of_getElem? (i := 3) rfl))
theorem hdS_X1_nextPump : yX1_nextPump.cls ≠ "java/lang/invoke/MethodHandle" ∧ yX1_nextPump.cls ≠ "java/lang/invoke/VarHandle" ∧ (parseMethodDescriptor yX1_nextPump.desc).map (fun d => d.parameters.length) = some 2 := by decide +kernel
def wz_X1_pintsByRule : List Cond := .code yX1_pintsByRule cX1_pintsByRule 6 (some .int) :: wsL_law
abbrev r_X1_pintsByRule : Room := { frames := 2, cells := 0, slots := 0, locals := 45 }
set_option maxHeartbeats 4000000 in
set_option maxRecDepth 100000 in
theorem c_X1_pintsByRule (l : Launch) (D : va_G) (K : Nat → ClassId) (F : Nat) (hDr : Nat → Nat) (rDr1 : Nat) (rDr3 : Nat) (rDr4 : Nat) (hRo : Nat → Nat) (sDr : MS) (sRo : MS) (p2 : Int32) (p3 : Int32) (p4 : Int32) (p5 : Int32) (res : Int32) (hf : f_X1_pintsByRule F sDr sRo p2 p3 p4 p5 = some res) : Met l yX1_pintsByRule wz_X1_pintsByRule r_X1_pintsByRule (va_Pc [.ref (hDr 99), .ref (hRo 99), .int p2, .int p3, .int p4, .int p5] (PR D K (wDr K hDr rDr1 rDr3 rDr4 sDr ++ wRo K hRo sRo))) (va_Qi (fun r (_ : Unit) => r = res) BN nOne) 0 0 nOne := by
  refine Met.ofW (cc := cX1_pintsByRule) (maxL := 6) (ret := (some .int)) (by decide) rfl ?_
  intro p e s m args below meth c s₁ B hml hv
  obtain ⟨hargs, hP, hK⟩ := hv
  have hx := B.exec
  have hb := B.bytes
  have hr := B.returns
  have hts := atoms_spec (ws := wz_X1_pintsByRule) B.pre
  have htl : ∀ w ∈ wsL_law, w.before args s = true := fun w h => hts w (List.mem_cons_of_mem _ h)
  have hown : s.vm.findClass RX1 = some m.cls := findClass_of_methodNamed B.named
  have hlocks := B.notSynchronized
  have hS : va_S nOne s.heap s.heap [] := va_S.rf
  have iX9 : ∀ w ∈ wsX90, w ∈ wz_X1_pintsByRule := fun w h => List.mem_cons_of_mem _ (inlX9 w h)
  suffices hgo : ∀ Q : State → Prop, Q = MQ below (va_Qi (fun r (_ : Unit) => r = res) BN nOne) args s 0 0 nOne → W p l e (headSpec wz_X1_pintsByRule r_X1_pintsByRule).room s m args below meth c s.heap [] 0 0 Q (entryFrame m args 6) from hgo _ rfl
  intro Q hQ
  have hen : entryFrame m args 6 = entryFrame m (([.ref (hDr 99), .ref (hRo 99), .int p2, .int p3, .int p4, .int p5] : List Value).toArray) 6 := by rw [hargs]
  have hl := lv_entry ([.ref (hDr 99), .ref (hRo 99), .int p2, .int p3, .int p4, .int p5]) (n := 6) (Nat.le_of_ble_eq_true rfl)
  rw [hen, lg_entry_eq]
  generalize (lg_sl ([.ref (hDr 99), .ref (hRo 99), .int p2, .int p3, .int p4, .int p5]) ++ List.replicate (6 - (lg_sl ([.ref (hDr 99), .ref (hRo 99), .int p2, .int p3, .int p4, .int p5])).length) Slot.unset).toArray = ls at hl ⊢
  have hl : lv_has ls 6 [(0, .ref (hDr 99)), (1, .ref (hRo 99)), (2, .int p2), (3, .int p3), (4, .int p4), (5, .int p5)] := hl
  unfold f_X1_pintsByRule at hf
  obtain ⟨H, hHe⟩ : ∃ z, z = s.heap := ⟨_, rfl⟩
  obtain ⟨locs, hLe⟩ : ∃ z : List Loc, z = [] := ⟨_, rfl⟩
  rw [← hLe]
  have hS : va_S nOne s.heap H locs := by rw [hHe, hLe]; exact hS
  have hP : va_P D vwCl (wDr K hDr rDr1 rDr3 rDr4 sDr ++ wRo K hRo sRo) H := by rw [hHe]; exact hP
  have hgo : W p l e (headSpec wz_X1_pintsByRule r_X1_pintsByRule).room s m args below meth c H locs 0 0 Q (F0 m 0 ls []) := by
    refine lv_iload_n hx hb dX1_pintsByRule_0 rfl (lv_at hl 2 rfl) ?_
    by_cases c1 : p2 = (0 : Int32)
    · have hf := it_t hf c1
      refine lv_tableIn (tgt := 28) hx hb dX1_pintsByRule_1 (by rw [c1]; decide) (by rw [c1]; decide) (off := 27) (by rw [c1]; rfl) (by decide) ?_
      refine lv_aload_n hx hb dX1_pintsByRule_28 rfl (lv_at hl 1 rfl) ?_
      refine va_get (D := D) (ci := 8) (v := .int (sRo.1 0)) (C := RX9) (T := TX9) (N := 19) hx hb hts iX9 hown hK hP (2 + 0) (rwr ln_Dr o_Ro) rfl 0 (by decide) (htl _ (mB39 _ (List.mem_of_getElem? (i := 13) rfl))) (fun _ h9 => h9) rfl dX1_pintsByRule_29 ?_
      refine lv_iload hx hb dX1_pintsByRule_32 (lv_at hl 4 rfl) ?_
      refine lv_isub hx hb dX1_pintsByRule_34 ?_
      have e9 := Option.some.inj hf
      rw [hQ]
      exact W.iret (v := ((sRo.1 0) - p4)) hx hb hr (fun t ht hW => ⟨⟨((sRo.1 0) - p4), (), rfl, e9, trivial⟩, hS.F ht⟩) hS.2.2 dX1_pintsByRule_35
    · have hf := it_f hf c1
      by_cases c2 : p2 = (1 : Int32)
      · have hf := it_t hf c2
        refine lv_tableIn (tgt := 36) hx hb dX1_pintsByRule_1 (by rw [c2]; decide) (by rw [c2]; decide) (off := 35) (by rw [c2]; rfl) (by decide) ?_
        refine lv_aload_n hx hb dX1_pintsByRule_36 rfl (lv_at hl 1 rfl) ?_
        refine lv_iload_n hx hb dX1_pintsByRule_37 rfl (lv_at hl 3 rfl) ?_
        refine lv_aload_n hx hb dX1_pintsByRule_38 rfl (lv_at hl 1 rfl) ?_
        refine lv_iload_n hx hb dX1_pintsByRule_39 rfl (lv_at hl 3 rfl) ?_
        refine lv_iload hx hb dX1_pintsByRule_40 (lv_at hl 5 rfl) ?_
        obtain ⟨o3, go3, hf⟩ := bd_s hf
        refine ro_Si (As := [.ref (hRo 99), .int p3, .int p5]) (rest := [.int p3, .ref (hRo 99)]) ⟨hx, hb, hml, hown, hts⟩ (c_X1_nextCheaper l D K F hRo sRo p3 p5 o3 go3) (va_cwS 3 hts (gcS_X1_nextCheaper (mB39 _ (List.mem_of_getElem? (i := 14) rfl))) rfl rfl rfl hdS_X1_nextCheaper ⟨Nat.le_of_ble_eq_true rfl, Nat.le_of_ble_eq_true rfl⟩) hK hP hS (va_PL (cs := [wDr K hDr rDr1 rDr3 rDr4 sDr, wRo K hRo sRo]) (cc := [wRo K hRo sRo]) hP (fl2 _ _) [1] rfl (fl1 _)) rfl hl.1 rfl (Nat.le_of_ble_eq_true rfl) dX1_pintsByRule_42 ⟨Nat.zero_le _, Nat.zero_le _⟩ (fun H locs hP hS => ?_)
        refine lv_iload hx hb dX1_pintsByRule_45 (lv_at hl 4 rfl) ?_
        obtain ⟨o4, go4, hf⟩ := bd_s hf
        refine ro_Si (As := [.ref (hRo 99), .int p3, .int o3, .int p4]) (rest := []) ⟨hx, hb, hml, hown, hts⟩ (c_X1_pintsTo l D K F hRo sRo p3 o3 p4 o4 go4) (va_cwS 4 hts (gcS_X1_pintsTo (mB39 _ (List.mem_of_getElem? (i := 20) rfl))) rfl rfl rfl hdS_X1_pintsTo ⟨Nat.le_of_ble_eq_true rfl, Nat.le_of_ble_eq_true rfl⟩) hK hP hS (va_PL (cs := [wDr K hDr rDr1 rDr3 rDr4 sDr, wRo K hRo sRo]) (cc := [wRo K hRo sRo]) hP (fl2 _ _) [1] rfl (fl1 _)) rfl hl.1 rfl (Nat.le_of_ble_eq_true rfl) dX1_pintsByRule_47 ⟨Nat.zero_le _, Nat.zero_le _⟩ (fun H locs hP hS => ?_)
        have e9 := Option.some.inj hf
        rw [hQ]
        exact W.iret (v := o4) hx hb hr (fun t ht hW => ⟨⟨o4, (), rfl, e9, trivial⟩, hS.F ht⟩) hS.2.2 dX1_pintsByRule_50
      · have hf := it_f hf c2
        by_cases c5 : p2 = (2 : Int32)
        · have hf := it_t hf c5
          refine lv_tableIn (tgt := 51) hx hb dX1_pintsByRule_1 (by rw [c5]; decide) (by rw [c5]; decide) (off := 50) (by rw [c5]; rfl) (by decide) ?_
          refine lv_aload_n hx hb dX1_pintsByRule_51 rfl (lv_at hl 1 rfl) ?_
          refine lv_iload_n hx hb dX1_pintsByRule_52 rfl (lv_at hl 3 rfl) ?_
          refine lv_aload_n hx hb dX1_pintsByRule_53 rfl (lv_at hl 1 rfl) ?_
          refine lv_iload_n hx hb dX1_pintsByRule_54 rfl (lv_at hl 3 rfl) ?_
          obtain ⟨o6, go6, hf⟩ := bd_s hf
          refine ro_Si (As := [.ref (hRo 99), .int p3]) (rest := [.int p3, .ref (hRo 99)]) ⟨hx, hb, hml, hown, hts⟩ (c_X1_nextPump l D K F hRo sRo p3 o6 go6) (va_cwS 2 hts (gcS_X1_nextPump (mB40 _ (List.mem_of_getElem? (i := 1) rfl))) rfl rfl rfl hdS_X1_nextPump ⟨Nat.le_of_ble_eq_true rfl, Nat.le_of_ble_eq_true rfl⟩) hK hP hS (va_PL (cs := [wDr K hDr rDr1 rDr3 rDr4 sDr, wRo K hRo sRo]) (cc := [wRo K hRo sRo]) hP (fl2 _ _) [1] rfl (fl1 _)) rfl hl.1 rfl (Nat.le_of_ble_eq_true rfl) dX1_pintsByRule_55 ⟨Nat.zero_le _, Nat.zero_le _⟩ (fun H locs hP hS => ?_)
          refine lv_iload hx hb dX1_pintsByRule_58 (lv_at hl 4 rfl) ?_
          obtain ⟨o7, go7, hf⟩ := bd_s hf
          refine ro_Si (As := [.ref (hRo 99), .int p3, .int o6, .int p4]) (rest := []) ⟨hx, hb, hml, hown, hts⟩ (c_X1_pintsTo l D K F hRo sRo p3 o6 p4 o7 go7) (va_cwS 4 hts (gcS_X1_pintsTo (mB39 _ (List.mem_of_getElem? (i := 20) rfl))) rfl rfl rfl hdS_X1_pintsTo ⟨Nat.le_of_ble_eq_true rfl, Nat.le_of_ble_eq_true rfl⟩) hK hP hS (va_PL (cs := [wDr K hDr rDr1 rDr3 rDr4 sDr, wRo K hRo sRo]) (cc := [wRo K hRo sRo]) hP (fl2 _ _) [1] rfl (fl1 _)) rfl hl.1 rfl (Nat.le_of_ble_eq_true rfl) dX1_pintsByRule_60 ⟨Nat.zero_le _, Nat.zero_le _⟩ (fun H locs hP hS => ?_)
          have e9 := Option.some.inj hf
          rw [hQ]
          exact W.iret (v := o7) hx hb hr (fun t ht hW => ⟨⟨o7, (), rfl, e9, trivial⟩, hS.F ht⟩) hS.2.2 dX1_pintsByRule_63
        · have hf := it_f hf c5
          have nc1 := lv_neT c1 (show ((0 : Int32)).toInt = 0 from by decide)
          have nc2 := lv_neT c2 (show ((1 : Int32)).toInt = 1 from by decide)
          have nc5 := lv_neT c5 (show ((2 : Int32)).toInt = 2 from by decide)
          refine lv_tableOut (tgt := 64) hx hb dX1_pintsByRule_1 (by omega) (by decide) ?_
          refine lv_iconst (v := (2 : Int32)) hx hb dX1_pintsByRule_64 (by decide) ?_
          refine lv_iload hx hb dX1_pintsByRule_65 (lv_at hl 4 rfl) ?_
          refine lv_imul hx hb dX1_pintsByRule_67 ?_
          refine lv_aload_n hx hb dX1_pintsByRule_68 rfl (lv_at hl 1 rfl) ?_
          refine va_get (D := D) (ci := 8) (v := .int (sRo.1 0)) (C := RX9) (T := TX9) (N := 19) hx hb hts iX9 hown hK hP (2 + 0) (rwr ln_Dr o_Ro) rfl 0 (by decide) (htl _ (mB39 _ (List.mem_of_getElem? (i := 13) rfl))) (fun _ h9 => h9) rfl dX1_pintsByRule_69 ?_
          refine lv_icmp_ge (tgt := 85) hx hb dX1_pintsByRule_72 (by decide) (fun c8 => ?_) (fun c8 => ?_)
          · have hf := it_t hf c8
            refine lv_iconst (v := (0 : Int32)) hx hb dX1_pintsByRule_85 (by decide) ?_
            have e9 := Option.some.inj hf
            rw [hQ]
            exact W.iret (v := (0 : Int32)) hx hb hr (fun t ht hW => ⟨⟨(0 : Int32), (), rfl, e9, trivial⟩, hS.F ht⟩) hS.2.2 dX1_pintsByRule_86
          · have hf := it_f hf c8
            refine lv_aload_n hx hb dX1_pintsByRule_75 rfl (lv_at hl 1 rfl) ?_
            refine va_get (D := D) (ci := 8) (v := .int (sRo.1 0)) (C := RX9) (T := TX9) (N := 19) hx hb hts iX9 hown hK hP (2 + 0) (rwr ln_Dr o_Ro) rfl 0 (by decide) (htl _ (mB39 _ (List.mem_of_getElem? (i := 13) rfl))) (fun _ h9 => h9) rfl dX1_pintsByRule_76 ?_
            refine lv_iload hx hb dX1_pintsByRule_79 (lv_at hl 4 rfl) ?_
            refine lv_isub hx hb dX1_pintsByRule_81 ?_
            refine lv_goto (tgt := 86) hx hb dX1_pintsByRule_82 (by decide) ?_
            have e9 := Option.some.inj hf
            rw [hQ]
            exact W.iret (v := ((sRo.1 0) - p4)) hx hb hr (fun t ht hW => ⟨⟨((sRo.1 0) - p4), (), rfl, e9, trivial⟩, hS.F ht⟩) hS.2.2 dX1_pintsByRule_86
  rw [hHe] at hgo
  exact hgo

theorem gcV_X0_priceSeen {T0 : Cond} {own : String} {i : Nat} (h : Cond.methodLink own i yX0_priceSeen ∈ wsL_law) : GoodIn (T0 :: wsL_law) (wsV own i RX0 yX0_priceSeen wz_X0_priceSeen) := gV h (mB17 _ (List.mem_of_getElem? (i := 2) rfl)) (mB17 _ (List.mem_of_getElem? (i := 3) rfl)) (mB4 _ (List.mem_of_getElem? (i := 11) rfl)) (mB17 _ (List.mem_of_getElem? (i := 4) rfl))
theorem hdV_X0_priceSeen : yX0_priceSeen.cls = RX0 ∧ yX0_priceSeen.cls ≠ "java/lang/invoke/MethodHandle" ∧ yX0_priceSeen.cls ≠ "java/lang/invoke/VarHandle" ∧ (parseMethodDescriptor yX0_priceSeen.desc).map (fun d => d.parameters.length) = some 2 := by decide +kernel
theorem gcV_X1_pintsByRule {T0 : Cond} {own : String} {i : Nat} (h : Cond.methodLink own i yX1_pintsByRule ∈ wsL_law) : GoodIn (T0 :: wsL_law) (wsV own i RX1 yX1_pintsByRule wz_X1_pintsByRule) := gV h (mB39 _ (List.mem_of_getElem? (i := 10) rfl)) (mB39 _ (List.mem_of_getElem? (i := 11) rfl)) (mB2 _ (List.mem_of_getElem? (i := 6) rfl)) (mB39 _ (List.mem_of_getElem? (i := 12) rfl))
theorem hdV_X1_pintsByRule : yX1_pintsByRule.cls = RX1 ∧ yX1_pintsByRule.cls ≠ "java/lang/invoke/MethodHandle" ∧ yX1_pintsByRule.cls ≠ "java/lang/invoke/VarHandle" ∧ (parseMethodDescriptor yX1_pintsByRule.desc).map (fun d => d.parameters.length) = some 5 := by decide +kernel
theorem gcV_X9_legPints {T0 : Cond} {own : String} {i : Nat} (h : Cond.methodLink own i yX9_legPints ∈ wsL_law) : GoodIn (T0 :: wsL_law) (wsV own i RX9 yX9_legPints wz_X9_legPints) := gV h (mB30 _ (List.mem_of_getElem? (i := 13) rfl)) (mB30 _ (List.mem_of_getElem? (i := 14) rfl)) (mB1 _ (List.mem_of_getElem? (i := 17) rfl)) (mB30 _ (List.mem_of_getElem? (i := 15) rfl))
theorem hdV_X9_legPints : yX9_legPints.cls = RX9 ∧ yX9_legPints.cls ≠ "java/lang/invoke/MethodHandle" ∧ yX9_legPints.cls ≠ "java/lang/invoke/VarHandle" ∧ (parseMethodDescriptor yX9_legPints.desc).map (fun d => d.parameters.length) = some 1 := by decide +kernel
def wz_X1_travel : List Cond := .code yX1_travel cX1_travel 9 (some .int) :: wsL_law
abbrev r_X1_travel : Room := { frames := 3, cells := 0, slots := 0, locals := 70 }
set_option maxHeartbeats 4000000 in
set_option maxRecDepth 100000 in
theorem c_X1_travel (l : Launch) (D : va_G) (K : Nat → ClassId) (F : Nat) (hDr : Nat → Nat) (rDr3 : Nat) (rDr4 : Nat) (hDw : Nat → Nat) (hRo : Nat → Nat) (sz : Nat) (sDr : MS) (sDw : MS) (sRo : MS) (p2 : Int32) (p3 : Int32) (res : Int32 × MS × MS) (hf : f_X1_travel F sRo p2 p3 sDr sDw = some res) : Met l yX1_travel wz_X1_travel r_X1_travel (va_Pc [.ref (hDr 99), .ref (hRo 99), .int p2, .int p3] (PW D K (wDr K hDr (hDw 99) rDr3 rDr4 sDr ++ wDw K hDw sDw ++ wRo K hRo sRo) sz)) (va_Qi (fun r u => r = res.1 ∧ u = res.2) (fun u t => BW D K (va_A (wDr K hDr (hDw 99) rDr3 rDr4 sDr ++ wDw K hDw sDw ++ wRo K hRo sRo) sz) (wDr K hDr (hDw 99) rDr3 rDr4 u.1 ++ wDw K hDw u.2 ++ wRo K hRo sRo) t) (va_A (wDr K hDr (hDw 99) rDr3 rDr4 sDr ++ wDw K hDw sDw ++ wRo K hRo sRo) sz)) 0 0 (va_A (wDr K hDr (hDw 99) rDr3 rDr4 sDr ++ wDw K hDw sDw ++ wRo K hRo sRo) sz) := by
  refine Met.ofW (cc := cX1_travel) (maxL := 9) (ret := (some .int)) (by decide) rfl ?_
  intro p e s m args below meth c s₁ B hml hv
  obtain ⟨hargs, hsz, hP, hK, hD0⟩ := hv
  have hx := B.exec
  have hb := B.bytes
  have hr := B.returns
  have hts := atoms_spec (ws := wz_X1_travel) B.pre
  have htl : ∀ w ∈ wsL_law, w.before args s = true := fun w h => hts w (List.mem_cons_of_mem _ h)
  have hown : s.vm.findClass RX1 = some m.cls := findClass_of_methodNamed B.named
  have hlocks := B.notSynchronized
  subst hsz
  have hD := hD0.self (sz := s.heap.size)
  generalize hAe : va_A (wDr K hDr (hDw 99) rDr3 rDr4 sDr ++ wDw K hDw sDw ++ wRo K hRo sRo) s.heap.size = A at hD ⊢
  have hA : ∀ q : Nat, s.heap.size ≤ q → A q := fun q h => by rw [← hAe]; exact Or.inr h
  have hS : va_S A s.heap s.heap [] := va_S.rf
  have iX1 : ∀ w ∈ wsX10, w ∈ wz_X1_travel := fun w h => List.mem_cons_of_mem _ (inlX1 w h)
  have iX9 : ∀ w ∈ wsX90, w ∈ wz_X1_travel := fun w h => List.mem_cons_of_mem _ (inlX9 w h)
  suffices hgo : ∀ Q : State → Prop, Q = MQ below (va_Qi (fun r u => r = res.1 ∧ u = res.2) (fun u t => BW D K A (wDr K hDr (hDw 99) rDr3 rDr4 u.1 ++ wDw K hDw u.2 ++ wRo K hRo sRo) t) A) args s 0 0 A → W p l e (headSpec wz_X1_travel r_X1_travel).room s m args below meth c s.heap [] 0 0 Q (entryFrame m args 9) from hgo _ rfl
  intro Q hQ
  have w126 : ∀ (x6 : Int32), ∀ (sDr : MS), ∀ (sDw : MS), ∀ (H : Heap) (locs : List Loc) (ls : Array Slot), f_X1_travel_126 F sRo p2 p3 x6 sDr sDw = some res → va_P D vwCl (wDr K hDr (hDw 99) rDr3 rDr4 sDr ++ wDw K hDw sDw ++ wRo K hRo sRo) H → va_D A (wDr K hDr (hDw 99) rDr3 rDr4 sDr ++ wDw K hDw sDw ++ wRo K hRo sRo) → va_S A s.heap H locs → lv_has ls 9 [(0, .ref (hDr 99)), (6, .int x6)] → W p l e (headSpec wz_X1_travel r_X1_travel).room s m args below meth c H locs 0 0 Q (F0 m 126 ls []) := by
    intro x6 sDr sDw H locs ls hf hP hD hS hl
    unfold f_X1_travel_126 at hf
    refine lv_aload_n hx hb dX1_travel_126 rfl (lv_at hl 0 rfl) ?_
    refine lv_iload hx hb dX1_travel_127 (lv_at hl 1 rfl) ?_
    refine va_put (D := D) (ci := 1) (v := .int x6) (ty := .int) (C := RX1) (T := TX1) (N := 6) hx hb hts iX1 tyX1 tyX1_ok nmX1 hown hK hP hD hS 0 (rwl (rwl o_Dr)) rfl 0 (by decide) (htl _ (mB41 _ (List.mem_of_getElem? (i := 12) rfl))) (fun _ h9 => h9) rfl (by decide +kernel) rfl rfl (Nat.le_of_ble_eq_true rfl) dX1_travel_129 (fun H locs hP hD hS => ?_)
    have hP := cvP (stl (stl si_Dr_0 (rlt o_Dr)) (rlt (rwl o_Dr))) hP
    have hD := cvD (stl (stl si_Dr_0 (rlt o_Dr)) (rlt (rwl o_Dr))) hD
    obtain ⟨s14, es14⟩ : ∃ z, z = sI sDr 0 x6 := ⟨_, rfl⟩
    have hP : va_P D vwCl (wDr K hDr (hDw 99) rDr3 rDr4 s14 ++ wDw K hDw sDw ++ wRo K hRo sRo) H := by rw [es14]; exact hP
    have hD : va_D A (wDr K hDr (hDw 99) rDr3 rDr4 s14 ++ wDw K hDw sDw ++ wRo K hRo sRo) := by rw [es14]; exact hD
    have hf := lz_s hf s14 es14
    refine lv_bipush (v := (-2 : Int32)) hx hb dX1_travel_132 (by decide) ?_
    have e9 := Option.some.inj hf
    rw [hQ]
    exact W.iret (v := (-2 : Int32)) hx hb hr (fun t ht hW => ⟨⟨(-2 : Int32), (s14, sDw), rfl, ⟨pr1 e9, pr2 e9⟩, ⟨by rw [ht]; exact hP, va_K.moved hW.alike hK, hD⟩⟩, hS.F ht⟩) hS.2.2 dX1_travel_134
  have w104 : ∀ (k18 : Int32 → Int32 → Int32 → MS → MS → Option (Int32 × MS × MS)), (∀ (x4 : Int32), ∀ (x5 : Int32), ∀ (x6 : Int32), ∀ (sDr : MS), ∀ (sDw : MS), ∀ (H : Heap) (locs : List Loc) (ls : Array Slot), k18 x4 x5 x6 sDr sDw = some res → va_P D vwCl (wDr K hDr (hDw 99) rDr3 rDr4 sDr ++ wDw K hDw sDw ++ wRo K hRo sRo) H → va_D A (wDr K hDr (hDw 99) rDr3 rDr4 sDr ++ wDw K hDw sDw ++ wRo K hRo sRo) → va_S A s.heap H locs → lv_has ls 9 [(0, .ref (hDr 99)), (1, .ref (hRo 99)), (2, .int p2), (3, .int p3), (4, .int x4), (5, .int x5), (6, .int x6)] → W p l e (headSpec wz_X1_travel r_X1_travel).room s m args below meth c H locs 0 0 Q (F0 m 18 ls [])) → ∀ (x4 : Int32), ∀ (x6 : Int32), ∀ (x8 : Int32), ∀ (y0 : Int32), ∀ (y1 : Int32), ∀ (sDr : MS), ∀ (sDw : MS), ∀ (H : Heap) (locs : List Loc) (ls : Array Slot), f_X1_travel_104 F sRo p2 p3 k18 x4 x6 x8 y0 y1 sDr sDw = some res → va_P D vwCl (wDr K hDr (hDw 99) rDr3 rDr4 sDr ++ wDw K hDw sDw ++ wRo K hRo sRo) H → va_D A (wDr K hDr (hDw 99) rDr3 rDr4 sDr ++ wDw K hDw sDw ++ wRo K hRo sRo) → va_S A s.heap H locs → lv_has ls 9 [(0, .ref (hDr 99)), (1, .ref (hRo 99)), (2, .int p2), (3, .int p3), (4, .int x4), (6, .int x6), (8, .int x8)] → W p l e (headSpec wz_X1_travel r_X1_travel).room s m args below meth c H locs 0 0 Q (F0 m 104 ls [.int y1, .int y0]) := by
    intro k18 hk18 x4 x6 x8 y0 y1 sDr sDw H locs ls hf hP hD hS hl
    unfold f_X1_travel_104 at hf
    refine lv_iadd hx hb dX1_travel_104 ?_
    refine lv_istore (lv' := [(5, .int (y0 + y1)), (0, .ref (hDr 99)), (1, .ref (hRo 99)), (2, .int p2), (3, .int p3), (4, .int x4), (6, .int x6), (8, .int x8)]) hx hb dX1_travel_105 hl (by decide) rfl (fun ls hl => ?_)
    refine lv_iload hx hb dX1_travel_107 (lv_at hl 5 rfl) ?_
    refine lv_iload hx hb dX1_travel_109 (lv_at hl 7 rfl) ?_
    refine lv_aload_n hx hb dX1_travel_111 rfl (lv_at hl 2 rfl) ?_
    refine lv_iload hx hb dX1_travel_112 (lv_at hl 6 rfl) ?_
    obtain ⟨o11, go11, hf⟩ := bd_s hf
    refine ro_Vi (As := [.int x6]) (rest := [.int x8, .int x4]) ⟨hx, hb, hml, hown, hts⟩ (c_X9_legPints l D K F hRo sRo x6 o11 go11) (cwV 1 hts (gcV_X9_legPints (mB41 _ (List.mem_of_getElem? (i := 18) rfl))) rfl rfl rfl hdV_X9_legPints ⟨Nat.le_of_ble_eq_true rfl, Nat.le_of_ble_eq_true rfl⟩) hK hP hS (va_PL (cs := [wDr K hDr (hDw 99) rDr3 rDr4 sDr, wDw K hDw sDw, wRo K hRo sRo]) (cc := [wRo K hRo sRo]) hP (fl3 _ _ _) [2] rfl (fl1 _)) (va_recv hK hP (ci := 8) (q0 := ((2 + 1) + 0)) rfl (rwr (lnA ln_Dr ln_Dw) o_Ro)) rfl hl.1 rfl (Nat.le_of_ble_eq_true rfl) dX1_travel_114 ⟨Nat.zero_le _, Nat.zero_le _⟩ (fun H locs hP hS => ?_)
    refine lv_isub hx hb dX1_travel_117 ?_
    refine lv_iadd hx hb dX1_travel_118 ?_
    refine lv_istore (lv' := [(4, .int (x4 + (x8 - o11))), (5, .int (y0 + y1)), (0, .ref (hDr 99)), (1, .ref (hRo 99)), (2, .int p2), (3, .int p3), (6, .int x6), (8, .int x8)]) hx hb dX1_travel_119 hl (by decide) rfl (fun ls hl => ?_)
    refine lv_iload hx hb dX1_travel_121 (lv_at hl 0 rfl) ?_
    refine lv_if_ge (tgt := 135) hx hb dX1_travel_123 (by decide) (fun c12 => ?_) (fun c12 => ?_)
    · have hf := it_t hf c12
      obtain ⟨v13, ev13⟩ : ∃ z : Int32, z = x6 + (1 : Int32) := ⟨_, rfl⟩
      have hf := lz_s hf v13 ev13
      refine lv_iinc (v := v13) (lv' := [(6, .int v13), (4, .int (x4 + (x8 - o11))), (5, .int (y0 + y1)), (0, .ref (hDr 99)), (1, .ref (hRo 99)), (2, .int p2), (3, .int p3), (8, .int x8)]) hx hb dX1_travel_135 hl (k := 6) rfl (by rw [ev13]; rfl) (by decide) rfl (fun ls hl => ?_)
      refine lv_goto (tgt := 18) hx hb dX1_travel_138 (by decide) ?_
      exact hk18 (x4 + (x8 - o11)) (y0 + y1) v13 sDr sDw H locs ls hf hP hD hS (lv_sub hl [3, 4, 5, 6, 1, 2, 0] rfl)
    · have hf := it_f hf c12
      exact w126 x6 sDr sDw H locs ls hf hP hD hS (lv_sub hl [2, 6] rfl)
  have w81 : ∀ (k18 : Int32 → Int32 → Int32 → MS → MS → Option (Int32 × MS × MS)), (∀ (x4 : Int32), ∀ (x5 : Int32), ∀ (x6 : Int32), ∀ (sDr : MS), ∀ (sDw : MS), ∀ (H : Heap) (locs : List Loc) (ls : Array Slot), k18 x4 x5 x6 sDr sDw = some res → va_P D vwCl (wDr K hDr (hDw 99) rDr3 rDr4 sDr ++ wDw K hDw sDw ++ wRo K hRo sRo) H → va_D A (wDr K hDr (hDw 99) rDr3 rDr4 sDr ++ wDw K hDw sDw ++ wRo K hRo sRo) → va_S A s.heap H locs → lv_has ls 9 [(0, .ref (hDr 99)), (1, .ref (hRo 99)), (2, .int p2), (3, .int p3), (4, .int x4), (5, .int x5), (6, .int x6)] → W p l e (headSpec wz_X1_travel r_X1_travel).room s m args below meth c H locs 0 0 Q (F0 m 18 ls [])) → ∀ (x4 : Int32), ∀ (x5 : Int32), ∀ (x6 : Int32), ∀ (x7 : Int32), ∀ (y0 : Int32), ∀ (sDr : MS), ∀ (sDw : MS), ∀ (H : Heap) (locs : List Loc) (ls : Array Slot), f_X1_travel_81 F sRo p2 p3 k18 x4 x5 x6 x7 y0 sDr sDw = some res → va_P D vwCl (wDr K hDr (hDw 99) rDr3 rDr4 sDr ++ wDw K hDw sDw ++ wRo K hRo sRo) H → va_D A (wDr K hDr (hDw 99) rDr3 rDr4 sDr ++ wDw K hDw sDw ++ wRo K hRo sRo) → va_S A s.heap H locs → lv_has ls 9 [(0, .ref (hDr 99)), (1, .ref (hRo 99)), (2, .int p2), (3, .int p3), (4, .int x4), (5, .int x5), (6, .int x6), (7, .int x7)] → W p l e (headSpec wz_X1_travel r_X1_travel).room s m args below meth c H locs 0 0 Q (F0 m 81 ls [.int y0]) := by
    intro k18 hk18 x4 x5 x6 x7 y0 sDr sDw H locs ls hf hP hD hS hl
    unfold f_X1_travel_81 at hf
    refine lv_istore (lv' := [(8, .int y0), (0, .ref (hDr 99)), (1, .ref (hRo 99)), (2, .int p2), (3, .int p3), (4, .int x4), (5, .int x5), (6, .int x6), (7, .int x7)]) hx hb dX1_travel_81 hl (by decide) rfl (fun ls hl => ?_)
    refine lv_iload hx hb dX1_travel_83 (lv_at hl 6 rfl) ?_
    refine lv_iload hx hb dX1_travel_85 (lv_at hl 0 rfl) ?_
    refine lv_if_le (tgt := 103) hx hb dX1_travel_87 (by decide) (fun c10 => ?_) (fun c10 => ?_)
    · have hf := it_t hf c10
      refine lv_iconst (v := (0 : Int32)) hx hb dX1_travel_103 (by decide) ?_
      exact w104 k18 hk18 x4 x6 y0 x5 (0 : Int32) sDr sDw H locs ls hf hP hD hS (lv_sub hl [1, 2, 3, 4, 5, 7, 0] rfl)
    · have hf := it_f hf c10
      refine lv_iload hx hb dX1_travel_90 (lv_at hl 0 rfl) ?_
      refine lv_iload hx hb dX1_travel_92 (lv_at hl 8 rfl) ?_
      refine lv_imul hx hb dX1_travel_94 ?_
      refine lv_aload_n hx hb dX1_travel_95 rfl (lv_at hl 2 rfl) ?_
      refine va_get (D := D) (ci := 8) (v := .int (sRo.1 2)) (C := RX9) (T := TX9) (N := 19) hx hb hts iX9 hown hK hP ((2 + 1) + 0) (rwr (lnA ln_Dr ln_Dw) o_Ro) rfl 2 (by decide) (htl _ (mB41 _ (List.mem_of_getElem? (i := 15) rfl))) (fun _ h9 => h9) rfl dX1_travel_96 ?_
      refine lv_iadd hx hb dX1_travel_99 ?_
      refine lv_goto (tgt := 104) hx hb dX1_travel_100 (by decide) ?_
      exact w104 k18 hk18 x4 x6 y0 x5 ((y0 * x7) + (sRo.1 2)) sDr sDw H locs ls hf hP hD hS (lv_sub hl [1, 2, 3, 4, 5, 7, 0] rfl)
  have w58 : ∀ (k18 : Int32 → Int32 → Int32 → MS → MS → Option (Int32 × MS × MS)), (∀ (x4 : Int32), ∀ (x5 : Int32), ∀ (x6 : Int32), ∀ (sDr : MS), ∀ (sDw : MS), ∀ (H : Heap) (locs : List Loc) (ls : Array Slot), k18 x4 x5 x6 sDr sDw = some res → va_P D vwCl (wDr K hDr (hDw 99) rDr3 rDr4 sDr ++ wDw K hDw sDw ++ wRo K hRo sRo) H → va_D A (wDr K hDr (hDw 99) rDr3 rDr4 sDr ++ wDw K hDw sDw ++ wRo K hRo sRo) → va_S A s.heap H locs → lv_has ls 9 [(0, .ref (hDr 99)), (1, .ref (hRo 99)), (2, .int p2), (3, .int p3), (4, .int x4), (5, .int x5), (6, .int x6)] → W p l e (headSpec wz_X1_travel r_X1_travel).room s m args below meth c H locs 0 0 Q (F0 m 18 ls [])) → ∀ (x4 : Int32), ∀ (x5 : Int32), ∀ (x6 : Int32), ∀ (y0 : Int32), ∀ (sDr : MS), ∀ (sDw : MS), ∀ (H : Heap) (locs : List Loc) (ls : Array Slot), f_X1_travel_58 F sRo p2 p3 k18 x4 x5 x6 y0 sDr sDw = some res → va_P D vwCl (wDr K hDr (hDw 99) rDr3 rDr4 sDr ++ wDw K hDw sDw ++ wRo K hRo sRo) H → va_D A (wDr K hDr (hDw 99) rDr3 rDr4 sDr ++ wDw K hDw sDw ++ wRo K hRo sRo) → va_S A s.heap H locs → lv_has ls 9 [(0, .ref (hDr 99)), (1, .ref (hRo 99)), (2, .int p2), (3, .int p3), (4, .int x4), (5, .int x5), (6, .int x6)] → W p l e (headSpec wz_X1_travel r_X1_travel).room s m args below meth c H locs 0 0 Q (F0 m 58 ls [.int y0]) := by
    intro k18 hk18 x4 x5 x6 y0 sDr sDw H locs ls hf hP hD hS hl
    unfold f_X1_travel_58 at hf
    refine lv_istore (lv' := [(7, .int y0), (0, .ref (hDr 99)), (1, .ref (hRo 99)), (2, .int p2), (3, .int p3), (4, .int x4), (5, .int x5), (6, .int x6)]) hx hb dX1_travel_58 hl (by decide) rfl (fun ls hl => ?_)
    refine lv_iload hx hb dX1_travel_60 (lv_at hl 0 rfl) ?_
    refine lv_if_le (tgt := 80) hx hb dX1_travel_62 (by decide) (fun c8 => ?_) (fun c8 => ?_)
    · have hf := it_t hf c8
      refine lv_iconst (v := (0 : Int32)) hx hb dX1_travel_80 (by decide) ?_
      exact w81 k18 hk18 x4 x5 x6 y0 (0 : Int32) sDr sDw H locs ls hf hP hD hS (lv_sub hl [1, 2, 3, 4, 5, 6, 7, 0] rfl)
    · have hf := it_f hf c8
      refine lv_aload_n hx hb dX1_travel_65 rfl (lv_at hl 1 rfl) ?_
      refine lv_aload_n hx hb dX1_travel_66 rfl (lv_at hl 2 rfl) ?_
      refine lv_iload_n hx hb dX1_travel_67 rfl (lv_at hl 3 rfl) ?_
      refine lv_iload hx hb dX1_travel_68 (lv_at hl 7 rfl) ?_
      refine lv_iload hx hb dX1_travel_70 (lv_at hl 5 rfl) ?_
      refine lv_iload hx hb dX1_travel_72 (lv_at hl 0 rfl) ?_
      obtain ⟨o9, go9, hf⟩ := bd_s hf
      refine ro_Vi (As := [.ref (hRo 99), .int p2, .int x6, .int x4, .int y0]) (rest := []) ⟨hx, hb, hml, hown, hts⟩ (c_X1_pintsByRule l D K F hDr (hDw 99) rDr3 rDr4 hRo sDr sRo p2 x6 x4 y0 o9 go9) (cwV 5 hts (gcV_X1_pintsByRule (mB41 _ (List.mem_of_getElem? (i := 17) rfl))) rfl rfl rfl hdV_X1_pintsByRule ⟨Nat.le_of_ble_eq_true rfl, Nat.le_of_ble_eq_true rfl⟩) hK hP hS (va_PL (cs := [wDr K hDr (hDw 99) rDr3 rDr4 sDr, wDw K hDw sDw, wRo K hRo sRo]) (cc := [wDr K hDr (hDw 99) rDr3 rDr4 sDr, wRo K hRo sRo]) hP (fl3 _ _ _) [0, 2] rfl (fl2 _ _)) (va_recv hK hP (ci := 1) (q0 := 0) rfl (rwl (rwl o_Dr))) rfl hl.1 rfl (Nat.le_of_ble_eq_true rfl) dX1_travel_74 ⟨Nat.zero_le _, Nat.zero_le _⟩ (fun H locs hP hS => ?_)
      refine lv_goto (tgt := 81) hx hb dX1_travel_77 (by decide) ?_
      exact w81 k18 hk18 x4 x5 x6 y0 o9 sDr sDw H locs ls hf hP hD hS (lv_sub hl [1, 2, 3, 4, 5, 6, 7, 0] rfl)
  have w18 : ∀ (n : Nat), ∀ (x4 : Int32), ∀ (x5 : Int32), ∀ (x6 : Int32), ∀ (sDr : MS), ∀ (sDw : MS), ∀ (H : Heap) (locs : List Loc) (ls : Array Slot), f_X1_travel_18 F sRo p2 p3 n x4 x5 x6 sDr sDw = some res → va_P D vwCl (wDr K hDr (hDw 99) rDr3 rDr4 sDr ++ wDw K hDw sDw ++ wRo K hRo sRo) H → va_D A (wDr K hDr (hDw 99) rDr3 rDr4 sDr ++ wDw K hDw sDw ++ wRo K hRo sRo) → va_S A s.heap H locs → lv_has ls 9 [(0, .ref (hDr 99)), (1, .ref (hRo 99)), (2, .int p2), (3, .int p3), (4, .int x4), (5, .int x5), (6, .int x6)] → W p l e (headSpec wz_X1_travel r_X1_travel).room s m args below meth c H locs 0 0 Q (F0 m 18 ls []) := by
    intro n
    induction n with
    | zero =>
      intro x4 x5 x6 sDr sDw H locs ls hf
      exact absurd (show none = some res from hf) (fun h => nomatch h)
    | succ n ih =>
      intro x4 x5 x6 sDr sDw H locs ls hf hP hD hS hl
      rw [f_X1_travel_18] at hf
      refine lv_iload hx hb dX1_travel_18 (lv_at hl 6 rfl) ?_
      refine lv_aload_n hx hb dX1_travel_20 rfl (lv_at hl 1 rfl) ?_
      refine va_get (D := D) (ci := 8) (v := .int (sRo.1 8)) (C := RX9) (T := TX9) (N := 19) hx hb hts iX9 hown hK hP ((2 + 1) + 0) (rwr (lnA ln_Dr ln_Dw) o_Ro) rfl 8 (by decide) (htl _ (mB39 _ (List.mem_of_getElem? (i := 17) rfl))) (fun _ h9 => h9) rfl dX1_travel_21 ?_
      refine lv_iconst (v := (1 : Int32)) hx hb dX1_travel_24 (by decide) ?_
      refine lv_isub hx hb dX1_travel_25 ?_
      refine lv_icmp_ge (tgt := 141) hx hb dX1_travel_26 (by decide) (fun c2 => ?_) (fun c2 => ?_)
      · have hf := it_t hf c2
        refine lv_iload hx hb dX1_travel_141 (lv_at hl 5 rfl) ?_
        have e9 := Option.some.inj hf
        rw [hQ]
        exact W.iret (v := x5) hx hb hr (fun t ht hW => ⟨⟨x5, (sDr, sDw), rfl, ⟨pr1 e9, pr2 e9⟩, ⟨by rw [ht]; exact hP, va_K.moved hW.alike hK, hD⟩⟩, hS.F ht⟩) hS.2.2 dX1_travel_143
      · have hf := it_f hf c2
        refine lv_iload_n hx hb dX1_travel_29 rfl (lv_at hl 3 rfl) ?_
        refine lv_if_eq (tgt := 51) hx hb dX1_travel_30 (by decide) (fun c3 => ?_) (fun c3 => ?_)
        · have hf := it_t hf c3
          refine lv_aload_n hx hb dX1_travel_51 rfl (lv_at hl 1 rfl) ?_
          refine lv_iload hx hb dX1_travel_52 (lv_at hl 6 rfl) ?_
          refine lv_iconst (v := (0 : Int32)) hx hb dX1_travel_54 (by decide) ?_
          obtain ⟨o4, go4, hf⟩ := bd_s hf
          refine ro_Vi (As := [.int x6, .int (0 : Int32)]) (rest := []) ⟨hx, hb, hml, hown, hts⟩ (c_X9_priceAt l D K F hRo sRo x6 (0 : Int32) o4 go4) (cwV 2 hts (gcV_X9_priceAt (mB39 _ (List.mem_of_getElem? (i := 19) rfl))) rfl rfl rfl hdV_X9_priceAt ⟨Nat.le_of_ble_eq_true rfl, Nat.le_of_ble_eq_true rfl⟩) hK hP hS (va_PL (cs := [wDr K hDr (hDw 99) rDr3 rDr4 sDr, wDw K hDw sDw, wRo K hRo sRo]) (cc := [wRo K hRo sRo]) hP (fl3 _ _ _) [2] rfl (fl1 _)) (va_recv hK hP (ci := 8) (q0 := ((2 + 1) + 0)) rfl (rwr (lnA ln_Dr ln_Dw) o_Ro)) rfl hl.1 rfl (Nat.le_of_ble_eq_true rfl) dX1_travel_55 ⟨Nat.zero_le _, Nat.zero_le _⟩ (fun H locs hP hS => ?_)
          exact w58 (f_X1_travel_18 F sRo p2 p3 n) ih x4 x5 x6 o4 sDr sDw H locs ls hf hP hD hS (lv_sub hl [0, 1, 2, 3, 4, 5, 6] rfl)
        · have hf := it_f hf c3
          refine lv_aload_n hx hb dX1_travel_33 rfl (lv_at hl 0 rfl) ?_
          refine va_get (D := D) (ci := 1) (v := .ref (hDw 99)) (C := RX1) (T := TX1) (N := 6) hx hb hts iX1 hown hK hP 0 (rwl (rwl o_Dr)) rfl 1 (by decide) (htl _ (mB4 _ (List.mem_of_getElem? (i := 12) rfl))) (fun _ h9 => h9) rfl dX1_travel_34 ?_
          refine lv_aload_n hx hb dX1_travel_37 rfl (lv_at hl 1 rfl) ?_
          refine lv_aload_n hx hb dX1_travel_38 rfl (lv_at hl 1 rfl) ?_
          refine va_get (D := D) (ci := 8) (v := .ref (hRo 15)) (C := RX9) (T := TX9) (N := 19) hx hb hts iX9 hown hK hP ((2 + 1) + 0) (rwr (lnA ln_Dr ln_Dw) o_Ro) rfl 15 (by decide) (htl _ (mB41 _ (List.mem_of_getElem? (i := 14) rfl))) (fun _ h9 => h9) rfl dX1_travel_39 ?_
          refine lv_iload hx hb dX1_travel_42 (lv_at hl 6 rfl) ?_
          obtain ⟨g5, hf⟩ := gd_s hf
          refine va_iald hx hb hK hP ((2 + 1) + 6) 0 (f := sRo.2.2.1 15) (rwr (lnA ln_Dr ln_Dw) a_Ro_15) rfl (vpb_in g5) dX1_travel_44 ?_
          refine lv_topi (fun v6 ev6 => ?_)
          have hf := lz_s hf v6 ev6
          obtain ⟨o7, go7, hf⟩ := bd_s hf
          refine rk_Vi (wn := wDr K hDr (hDw 99) rDr3 rDr4 sDr ++ wDw K hDw o7.2 ++ wRo K hRo sRo) [wDr K hDr (hDw 99) rDr3 rDr4 sDr, wDw K hDw sDw, wRo K hRo sRo] [wDw K hDw sDw, wRo K hRo sRo] [wDw K hDw o7.2, wRo K hRo sRo] [wDr K hDr (hDw 99) rDr3 rDr4 sDr, wDw K hDw o7.2, wRo K hRo sRo] (As := [.ref (hRo 99), .int v6]) (rest := []) ⟨hx, hb, hml, hown, hts⟩ (c_X0_priceSeen l D K F hDw hRo H.size sDw sRo v6 o7 go7) (cwV 2 hts (gcV_X0_priceSeen (mB41 _ (List.mem_of_getElem? (i := 16) rfl))) rfl rfl rfl hdV_X0_priceSeen ⟨Nat.le_of_ble_eq_true rfl, Nat.le_of_ble_eq_true rfl⟩) hK hP hD hS hA [1, 2] (fl3 _ _ _) rfl (by decide) (fl2 _ _) (fl2 _ _) rfl rfl (fl3 _ _ _) (va_recv hK hP (ci := 0) (q0 := (2 + 0)) rfl (rwl (rwr ln_Dr o_Dw))) rfl hl.1 rfl (Nat.le_of_ble_eq_true rfl) dX1_travel_45 ⟨Nat.zero_le _, Nat.zero_le _⟩ (fun H locs hP hD hS => ?_)
          have hP : va_P D vwCl (wDr K hDr (hDw 99) rDr3 rDr4 sDr ++ wDw K hDw o7.2 ++ wRo K hRo sRo) H := hP
          have hD : va_D A (wDr K hDr (hDw 99) rDr3 rDr4 sDr ++ wDw K hDw o7.2 ++ wRo K hRo sRo) := hD
          refine lv_goto (tgt := 58) hx hb dX1_travel_48 (by decide) ?_
          exact w58 (f_X1_travel_18 F sRo p2 p3 n) ih x4 x5 x6 o7.1 sDr o7.2 H locs ls hf hP hD hS (lv_sub hl [0, 1, 2, 3, 4, 5, 6] rfl)
  have hen : entryFrame m args 9 = entryFrame m (([.ref (hDr 99), .ref (hRo 99), .int p2, .int p3] : List Value).toArray) 9 := by rw [hargs]
  have hl := lv_entry ([.ref (hDr 99), .ref (hRo 99), .int p2, .int p3]) (n := 9) (Nat.le_of_ble_eq_true rfl)
  rw [hen, lg_entry_eq]
  generalize (lg_sl ([.ref (hDr 99), .ref (hRo 99), .int p2, .int p3]) ++ List.replicate (9 - (lg_sl ([.ref (hDr 99), .ref (hRo 99), .int p2, .int p3])).length) Slot.unset).toArray = ls at hl ⊢
  have hl : lv_has ls 9 [(0, .ref (hDr 99)), (1, .ref (hRo 99)), (2, .int p2), (3, .int p3)] := hl
  unfold f_X1_travel at hf
  obtain ⟨H, hHe⟩ : ∃ z, z = s.heap := ⟨_, rfl⟩
  obtain ⟨locs, hLe⟩ : ∃ z : List Loc, z = [] := ⟨_, rfl⟩
  rw [← hLe]
  have hS : va_S A s.heap H locs := by rw [hHe, hLe]; exact hS
  have hP : va_P D vwCl (wDr K hDr (hDw 99) rDr3 rDr4 sDr ++ wDw K hDw sDw ++ wRo K hRo sRo) H := by rw [hHe]; exact hP
  have hgo : W p l e (headSpec wz_X1_travel r_X1_travel).room s m args below meth c H locs 0 0 Q (F0 m 0 ls []) := by
    refine lv_aload_n hx hb dX1_travel_0 rfl (lv_at hl 0 rfl) ?_
    refine lv_bipush (v := (-2 : Int32)) hx hb dX1_travel_1 (by decide) ?_
    refine va_put (D := D) (ci := 1) (v := .int (-2 : Int32)) (ty := .int) (C := RX1) (T := TX1) (N := 6) hx hb hts iX1 tyX1 tyX1_ok nmX1 hown hK hP hD hS 0 (rwl (rwl o_Dr)) rfl 0 (by decide) (htl _ (mB41 _ (List.mem_of_getElem? (i := 12) rfl))) (fun _ h9 => h9) rfl (by decide +kernel) rfl rfl (Nat.le_of_ble_eq_true rfl) dX1_travel_3 (fun H locs hP hD hS => ?_)
    have hP := cvP (stl (stl si_Dr_0 (rlt o_Dr)) (rlt (rwl o_Dr))) hP
    have hD := cvD (stl (stl si_Dr_0 (rlt o_Dr)) (rlt (rwl o_Dr))) hD
    obtain ⟨s1, es1⟩ : ∃ z, z = sI sDr 0 (-2 : Int32) := ⟨_, rfl⟩
    have hP : va_P D vwCl (wDr K hDr (hDw 99) rDr3 rDr4 s1 ++ wDw K hDw sDw ++ wRo K hRo sRo) H := by rw [es1]; exact hP
    have hD : va_D A (wDr K hDr (hDw 99) rDr3 rDr4 s1 ++ wDw K hDw sDw ++ wRo K hRo sRo) := by rw [es1]; exact hD
    have hf := lz_s hf s1 es1
    refine lv_aload_n hx hb dX1_travel_6 rfl (lv_at hl 1 rfl) ?_
    refine va_get (D := D) (ci := 8) (v := .int (sRo.1 1)) (C := RX9) (T := TX9) (N := 19) hx hb hts iX9 hown hK hP ((2 + 1) + 0) (rwr (lnA ln_Dr ln_Dw) o_Ro) rfl 1 (by decide) (htl _ (mB41 _ (List.mem_of_getElem? (i := 13) rfl))) (fun _ h9 => h9) rfl dX1_travel_7 ?_
    refine lv_istore (lv' := [(4, .int (sRo.1 1)), (0, .ref (hDr 99)), (1, .ref (hRo 99)), (2, .int p2), (3, .int p3)]) hx hb dX1_travel_10 hl (by decide) rfl (fun ls hl => ?_)
    refine lv_iconst (v := (0 : Int32)) hx hb dX1_travel_12 (by decide) ?_
    refine lv_istore (lv' := [(5, .int (0 : Int32)), (4, .int (sRo.1 1)), (0, .ref (hDr 99)), (1, .ref (hRo 99)), (2, .int p2), (3, .int p3)]) hx hb dX1_travel_13 hl (by decide) rfl (fun ls hl => ?_)
    refine lv_iconst (v := (0 : Int32)) hx hb dX1_travel_15 (by decide) ?_
    refine lv_istore (lv' := [(6, .int (0 : Int32)), (5, .int (0 : Int32)), (4, .int (sRo.1 1)), (0, .ref (hDr 99)), (1, .ref (hRo 99)), (2, .int p2), (3, .int p3)]) hx hb dX1_travel_16 hl (by decide) rfl (fun ls hl => ?_)
    exact w18 F (sRo.1 1) (0 : Int32) (0 : Int32) s1 sDw H locs ls hf hP hD hS (lv_sub hl [3, 4, 5, 6, 2, 1, 0] rfl)
  rw [hHe] at hgo
  exact hgo

theorem gcV_X1_travel {T0 : Cond} {own : String} {i : Nat} (h : Cond.methodLink own i yX1_travel ∈ wsL_law) : GoodIn (T0 :: wsL_law) (wsV own i RX1 yX1_travel wz_X1_travel) := gV h (mB41 _ (List.mem_of_getElem? (i := 9) rfl)) (mB41 _ (List.mem_of_getElem? (i := 10) rfl)) (mB2 _ (List.mem_of_getElem? (i := 6) rfl)) (mB41 _ (List.mem_of_getElem? (i := 11) rfl))
theorem hdV_X1_travel : yX1_travel.cls = RX1 ∧ yX1_travel.cls ≠ "java/lang/invoke/MethodHandle" ∧ yX1_travel.cls ≠ "java/lang/invoke/VarHandle" ∧ (parseMethodDescriptor yX1_travel.desc).map (fun d => d.parameters.length) = some 3 := by decide +kernel
def wz_X1_travelOpen : List Cond := .code yX1_travelOpen cX1_travelOpen 3 (some .int) :: wsL_law
abbrev r_X1_travelOpen : Room := { frames := 4, cells := 0, slots := 0, locals := 98 }
set_option maxHeartbeats 4000000 in
set_option maxRecDepth 100000 in
theorem c_X1_travelOpen (l : Launch) (D : va_G) (K : Nat → ClassId) (F : Nat) (hDr : Nat → Nat) (rDr3 : Nat) (rDr4 : Nat) (hDw : Nat → Nat) (hRo : Nat → Nat) (sz : Nat) (sDr : MS) (sDw : MS) (sRo : MS) (p2 : Int32) (res : Int32 × MS × MS) (hf : f_X1_travelOpen F sRo p2 sDr sDw = some res) : Met l yX1_travelOpen wz_X1_travelOpen r_X1_travelOpen (va_Pc [.ref (hDr 99), .ref (hRo 99), .int p2] (PW D K (wDr K hDr (hDw 99) rDr3 rDr4 sDr ++ wDw K hDw sDw ++ wRo K hRo sRo) sz)) (va_Qi (fun r u => r = res.1 ∧ u = res.2) (fun u t => BW D K (va_A (wDr K hDr (hDw 99) rDr3 rDr4 sDr ++ wDw K hDw sDw ++ wRo K hRo sRo) sz) (wDr K hDr (hDw 99) rDr3 rDr4 u.1 ++ wDw K hDw u.2 ++ wRo K hRo sRo) t) (va_A (wDr K hDr (hDw 99) rDr3 rDr4 sDr ++ wDw K hDw sDw ++ wRo K hRo sRo) sz)) 0 0 (va_A (wDr K hDr (hDw 99) rDr3 rDr4 sDr ++ wDw K hDw sDw ++ wRo K hRo sRo) sz) := by
  refine Met.ofW (cc := cX1_travelOpen) (maxL := 3) (ret := (some .int)) (by decide) rfl ?_
  intro p e s m args below meth c s₁ B hml hv
  obtain ⟨hargs, hsz, hP, hK, hD0⟩ := hv
  have hx := B.exec
  have hb := B.bytes
  have hr := B.returns
  have hts := atoms_spec (ws := wz_X1_travelOpen) B.pre
  have htl : ∀ w ∈ wsL_law, w.before args s = true := fun w h => hts w (List.mem_cons_of_mem _ h)
  have hown : s.vm.findClass RX1 = some m.cls := findClass_of_methodNamed B.named
  have hlocks := B.notSynchronized
  subst hsz
  have hD := hD0.self (sz := s.heap.size)
  generalize hAe : va_A (wDr K hDr (hDw 99) rDr3 rDr4 sDr ++ wDw K hDw sDw ++ wRo K hRo sRo) s.heap.size = A at hD ⊢
  have hA : ∀ q : Nat, s.heap.size ≤ q → A q := fun q h => by rw [← hAe]; exact Or.inr h
  have hS : va_S A s.heap s.heap [] := va_S.rf
  suffices hgo : ∀ Q : State → Prop, Q = MQ below (va_Qi (fun r u => r = res.1 ∧ u = res.2) (fun u t => BW D K A (wDr K hDr (hDw 99) rDr3 rDr4 u.1 ++ wDw K hDw u.2 ++ wRo K hRo sRo) t) A) args s 0 0 A → W p l e (headSpec wz_X1_travelOpen r_X1_travelOpen).room s m args below meth c s.heap [] 0 0 Q (entryFrame m args 3) from hgo _ rfl
  intro Q hQ
  have hen : entryFrame m args 3 = entryFrame m (([.ref (hDr 99), .ref (hRo 99), .int p2] : List Value).toArray) 3 := by rw [hargs]
  have hl := lv_entry ([.ref (hDr 99), .ref (hRo 99), .int p2]) (n := 3) (Nat.le_of_ble_eq_true rfl)
  rw [hen, lg_entry_eq]
  generalize (lg_sl ([.ref (hDr 99), .ref (hRo 99), .int p2]) ++ List.replicate (3 - (lg_sl ([.ref (hDr 99), .ref (hRo 99), .int p2])).length) Slot.unset).toArray = ls at hl ⊢
  have hl : lv_has ls 3 [(0, .ref (hDr 99)), (1, .ref (hRo 99)), (2, .int p2)] := hl
  unfold f_X1_travelOpen at hf
  obtain ⟨H, hHe⟩ : ∃ z, z = s.heap := ⟨_, rfl⟩
  obtain ⟨locs, hLe⟩ : ∃ z : List Loc, z = [] := ⟨_, rfl⟩
  rw [← hLe]
  have hS : va_S A s.heap H locs := by rw [hHe, hLe]; exact hS
  have hP : va_P D vwCl (wDr K hDr (hDw 99) rDr3 rDr4 sDr ++ wDw K hDw sDw ++ wRo K hRo sRo) H := by rw [hHe]; exact hP
  have hgo : W p l e (headSpec wz_X1_travelOpen r_X1_travelOpen).room s m args below meth c H locs 0 0 Q (F0 m 0 ls []) := by
    refine lv_aload_n hx hb dX1_travelOpen_0 rfl (lv_at hl 0 rfl) ?_
    refine lv_aload_n hx hb dX1_travelOpen_1 rfl (lv_at hl 1 rfl) ?_
    refine lv_iload_n hx hb dX1_travelOpen_2 rfl (lv_at hl 2 rfl) ?_
    refine lv_iconst (v := (0 : Int32)) hx hb dX1_travelOpen_3 (by decide) ?_
    obtain ⟨o1, go1, hf⟩ := bd_s hf
    refine rs_Vi (As := [.ref (hRo 99), .int p2, .int (0 : Int32)]) (rest := []) ⟨hx, hb, hml, hown, hts⟩ (c_X1_travel l D K F hDr rDr3 rDr4 hDw hRo H.size sDr sDw sRo p2 (0 : Int32) o1 go1) (cwV 3 hts (gcV_X1_travel (mB41 _ (List.mem_of_getElem? (i := 8) rfl))) rfl rfl rfl hdV_X1_travel ⟨Nat.le_of_ble_eq_true rfl, Nat.le_of_ble_eq_true rfl⟩) hK hP hD hS hA (va_recv hK hP (ci := 1) (q0 := 0) rfl (rwl (rwl o_Dr))) rfl hl.1 rfl (Nat.le_of_ble_eq_true rfl) dX1_travelOpen_4 ⟨Nat.zero_le _, Nat.zero_le _⟩ (fun H locs hP hD hS => ?_)
    have hP : va_P D vwCl (wDr K hDr (hDw 99) rDr3 rDr4 o1.2.1 ++ wDw K hDw o1.2.2 ++ wRo K hRo sRo) H := hP
    have hD : va_D A (wDr K hDr (hDw 99) rDr3 rDr4 o1.2.1 ++ wDw K hDw o1.2.2 ++ wRo K hRo sRo) := hD
    have e9 := Option.some.inj hf
    rw [hQ]
    exact W.iret (v := o1.1) hx hb hr (fun t ht hW => ⟨⟨o1.1, (o1.2.1, o1.2.2), rfl, ⟨pr1 e9, pr2 e9⟩, ⟨by rw [ht]; exact hP, va_K.moved hW.alike hK, hD⟩⟩, hS.F ht⟩) hS.2.2 dX1_travelOpen_7
  rw [hHe] at hgo
  exact hgo

def wz_X1_travelDrawn : List Cond := .code yX1_travelDrawn cX1_travelDrawn 4 (some .int) :: wsL_law
abbrev r_X1_travelDrawn : Room := { frames := 4, cells := 0, slots := 0, locals := 98 }
set_option maxHeartbeats 4000000 in
set_option maxRecDepth 100000 in
theorem c_X1_travelDrawn (l : Launch) (D : va_G) (K : Nat → ClassId) (F : Nat) (hDr : Nat → Nat) (rDr3 : Nat) (rDr4 : Nat) (hDw : Nat → Nat) (hRo : Nat → Nat) (sz : Nat) (sDr : MS) (sDw : MS) (sRo : MS) (p2 : Int32) (p3 : Int32) (res : Int32 × MS × MS) (hf : f_X1_travelDrawn F sRo p2 p3 sDr sDw = some res) : Met l yX1_travelDrawn wz_X1_travelDrawn r_X1_travelDrawn (va_Pc [.ref (hDr 99), .ref (hRo 99), .int p2, .int p3] (PW D K (wDr K hDr (hDw 99) rDr3 rDr4 sDr ++ wDw K hDw sDw ++ wRo K hRo sRo) sz)) (va_Qi (fun r u => r = res.1 ∧ u = res.2) (fun u t => BW D K (va_A (wDr K hDr (hDw 99) rDr3 rDr4 sDr ++ wDw K hDw sDw ++ wRo K hRo sRo) sz) (wDr K hDr (hDw 99) rDr3 rDr4 u.1 ++ wDw K hDw u.2 ++ wRo K hRo sRo) t) (va_A (wDr K hDr (hDw 99) rDr3 rDr4 sDr ++ wDw K hDw sDw ++ wRo K hRo sRo) sz)) 0 0 (va_A (wDr K hDr (hDw 99) rDr3 rDr4 sDr ++ wDw K hDw sDw ++ wRo K hRo sRo) sz) := by
  refine Met.ofW (cc := cX1_travelDrawn) (maxL := 4) (ret := (some .int)) (by decide) rfl ?_
  intro p e s m args below meth c s₁ B hml hv
  obtain ⟨hargs, hsz, hP, hK, hD0⟩ := hv
  have hx := B.exec
  have hb := B.bytes
  have hr := B.returns
  have hts := atoms_spec (ws := wz_X1_travelDrawn) B.pre
  have htl : ∀ w ∈ wsL_law, w.before args s = true := fun w h => hts w (List.mem_cons_of_mem _ h)
  have hown : s.vm.findClass RX1 = some m.cls := findClass_of_methodNamed B.named
  have hlocks := B.notSynchronized
  subst hsz
  have hD := hD0.self (sz := s.heap.size)
  generalize hAe : va_A (wDr K hDr (hDw 99) rDr3 rDr4 sDr ++ wDw K hDw sDw ++ wRo K hRo sRo) s.heap.size = A at hD ⊢
  have hA : ∀ q : Nat, s.heap.size ≤ q → A q := fun q h => by rw [← hAe]; exact Or.inr h
  have hS : va_S A s.heap s.heap [] := va_S.rf
  have iX0 : ∀ w ∈ wsX00, w ∈ wz_X1_travelDrawn := fun w h => List.mem_cons_of_mem _ (inlX0 w h)
  have iX1 : ∀ w ∈ wsX10, w ∈ wz_X1_travelDrawn := fun w h => List.mem_cons_of_mem _ (inlX1 w h)
  suffices hgo : ∀ Q : State → Prop, Q = MQ below (va_Qi (fun r u => r = res.1 ∧ u = res.2) (fun u t => BW D K A (wDr K hDr (hDw 99) rDr3 rDr4 u.1 ++ wDw K hDw u.2 ++ wRo K hRo sRo) t) A) args s 0 0 A → W p l e (headSpec wz_X1_travelDrawn r_X1_travelDrawn).room s m args below meth c s.heap [] 0 0 Q (entryFrame m args 4) from hgo _ rfl
  intro Q hQ
  have hen : entryFrame m args 4 = entryFrame m (([.ref (hDr 99), .ref (hRo 99), .int p2, .int p3] : List Value).toArray) 4 := by rw [hargs]
  have hl := lv_entry ([.ref (hDr 99), .ref (hRo 99), .int p2, .int p3]) (n := 4) (Nat.le_of_ble_eq_true rfl)
  rw [hen, lg_entry_eq]
  generalize (lg_sl ([.ref (hDr 99), .ref (hRo 99), .int p2, .int p3]) ++ List.replicate (4 - (lg_sl ([.ref (hDr 99), .ref (hRo 99), .int p2, .int p3])).length) Slot.unset).toArray = ls at hl ⊢
  have hl : lv_has ls 4 [(0, .ref (hDr 99)), (1, .ref (hRo 99)), (2, .int p2), (3, .int p3)] := hl
  unfold f_X1_travelDrawn at hf
  obtain ⟨H, hHe⟩ : ∃ z, z = s.heap := ⟨_, rfl⟩
  obtain ⟨locs, hLe⟩ : ∃ z : List Loc, z = [] := ⟨_, rfl⟩
  rw [← hLe]
  have hS : va_S A s.heap H locs := by rw [hHe, hLe]; exact hS
  have hP : va_P D vwCl (wDr K hDr (hDw 99) rDr3 rDr4 sDr ++ wDw K hDw sDw ++ wRo K hRo sRo) H := by rw [hHe]; exact hP
  have hgo : W p l e (headSpec wz_X1_travelDrawn r_X1_travelDrawn).room s m args below meth c H locs 0 0 Q (F0 m 0 ls []) := by
    refine lv_aload_n hx hb dX1_travelDrawn_0 rfl (lv_at hl 0 rfl) ?_
    refine va_get (D := D) (ci := 1) (v := .ref (hDw 99)) (C := RX1) (T := TX1) (N := 6) hx hb hts iX1 hown hK hP 0 (rwl (rwl o_Dr)) rfl 1 (by decide) (htl _ (mB4 _ (List.mem_of_getElem? (i := 12) rfl))) (fun _ h9 => h9) rfl dX1_travelDrawn_1 ?_
    refine lv_iload_n hx hb dX1_travelDrawn_4 rfl (lv_at hl 3 rfl) ?_
    refine va_put (D := D) (ci := 0) (v := .int p3) (ty := .int) (C := RX0) (T := TX0) (N := 1) hx hb hts iX0 tyX0 tyX0_ok nmX0 hown hK hP hD hS (2 + 0) (rwl (rwr ln_Dr o_Dw)) rfl 0 (by decide) (htl _ (mB60 _ (List.mem_of_getElem? (i := 16) rfl))) (fun _ h9 => h9) rfl (by decide +kernel) rfl rfl (Nat.le_of_ble_eq_true rfl) dX1_travelDrawn_5 (fun H locs hP hD hS => ?_)
    have hP := cvP (stl (str ln_Dr si_Dw_0) (rlt (rwr ln_Dr o_Dw))) hP
    have hD := cvD (stl (str ln_Dr si_Dw_0) (rlt (rwr ln_Dr o_Dw))) hD
    obtain ⟨s1, es1⟩ : ∃ z, z = sI sDw 0 p3 := ⟨_, rfl⟩
    have hP : va_P D vwCl (wDr K hDr (hDw 99) rDr3 rDr4 sDr ++ wDw K hDw s1 ++ wRo K hRo sRo) H := by rw [es1]; exact hP
    have hD : va_D A (wDr K hDr (hDw 99) rDr3 rDr4 sDr ++ wDw K hDw s1 ++ wRo K hRo sRo) := by rw [es1]; exact hD
    have hf := lz_s hf s1 es1
    refine lv_aload_n hx hb dX1_travelDrawn_8 rfl (lv_at hl 0 rfl) ?_
    refine lv_aload_n hx hb dX1_travelDrawn_9 rfl (lv_at hl 1 rfl) ?_
    refine lv_iload_n hx hb dX1_travelDrawn_10 rfl (lv_at hl 2 rfl) ?_
    refine lv_iconst (v := (1 : Int32)) hx hb dX1_travelDrawn_11 (by decide) ?_
    obtain ⟨o2, go2, hf⟩ := bd_s hf
    refine rs_Vi (As := [.ref (hRo 99), .int p2, .int (1 : Int32)]) (rest := []) ⟨hx, hb, hml, hown, hts⟩ (c_X1_travel l D K F hDr rDr3 rDr4 hDw hRo H.size sDr s1 sRo p2 (1 : Int32) o2 go2) (cwV 3 hts (gcV_X1_travel (mB41 _ (List.mem_of_getElem? (i := 8) rfl))) rfl rfl rfl hdV_X1_travel ⟨Nat.le_of_ble_eq_true rfl, Nat.le_of_ble_eq_true rfl⟩) hK hP hD hS hA (va_recv hK hP (ci := 1) (q0 := 0) rfl (rwl (rwl o_Dr))) rfl hl.1 rfl (Nat.le_of_ble_eq_true rfl) dX1_travelDrawn_12 ⟨Nat.zero_le _, Nat.zero_le _⟩ (fun H locs hP hD hS => ?_)
    have hP : va_P D vwCl (wDr K hDr (hDw 99) rDr3 rDr4 o2.2.1 ++ wDw K hDw o2.2.2 ++ wRo K hRo sRo) H := hP
    have hD : va_D A (wDr K hDr (hDw 99) rDr3 rDr4 o2.2.1 ++ wDw K hDw o2.2.2 ++ wRo K hRo sRo) := hD
    have e9 := Option.some.inj hf
    rw [hQ]
    exact W.iret (v := o2.1) hx hb hr (fun t ht hW => ⟨⟨o2.1, (o2.2.1, o2.2.2), rfl, ⟨pr1 e9, pr2 e9⟩, ⟨by rw [ht]; exact hP, va_K.moved hW.alike hK, hD⟩⟩, hS.F ht⟩) hS.2.2 dX1_travelDrawn_15
  rw [hHe] at hgo
  exact hgo

theorem gcS_X4_leave {T0 : Cond} {own : String} {i : Nat} (h : Cond.methodLink own i yX4_leave ∈ wsL_law) : GoodIn (T0 :: wsL_law) (va_wsS own i yX4_leave wz_X4_leave) := gS h (mB32 _ (List.mem_of_getElem? (i := 14) rfl)) (mB32 _ (List.mem_of_getElem? (i := 15) rfl)) (mB32 _ (List.mem_of_getElem? (i := 16) rfl))
theorem hdS_X4_leave : yX4_leave.cls ≠ "java/lang/invoke/MethodHandle" ∧ yX4_leave.cls ≠ "java/lang/invoke/VarHandle" ∧ (parseMethodDescriptor yX4_leave.desc).map (fun d => d.parameters.length) = some 4 := by decide +kernel
def wz_X1_leaveStation : List Cond := .code yX1_leaveStation cX1_leaveStation 4 none :: wsL_law
abbrev r_X1_leaveStation : Room := { frames := 1, cells := 0, slots := 0, locals := 25 }
set_option maxHeartbeats 4000000 in
set_option maxRecDepth 100000 in
theorem c_X1_leaveStation (l : Launch) (D : va_G) (K : Nat → ClassId) (F : Nat) (hDr : Nat → Nat) (rDr1 : Nat) (rDr3 : Nat) (rDr4 : Nat) (hRo : Nat → Nat) (sz : Nat) (sDr : MS) (sRo : MS) (p2 : Int32) (p3 : Int32) (res : MS) (hf : f_X1_leaveStation F sRo p2 p3 sDr = some res) : Met l yX1_leaveStation wz_X1_leaveStation r_X1_leaveStation (va_Pc [.ref (hDr 99), .ref (hRo 99), .int p2, .int p3] (PW D K (wDr K hDr rDr1 rDr3 rDr4 sDr ++ wRo K hRo sRo) sz)) (va_Qv (fun u => u = res) (fun u t => BW D K (va_A (wDr K hDr rDr1 rDr3 rDr4 sDr ++ wRo K hRo sRo) sz) (wDr K hDr rDr1 rDr3 rDr4 u ++ wRo K hRo sRo) t) (va_A (wDr K hDr rDr1 rDr3 rDr4 sDr ++ wRo K hRo sRo) sz)) 0 0 (va_A (wDr K hDr rDr1 rDr3 rDr4 sDr ++ wRo K hRo sRo) sz) := by
  refine Met.ofW (cc := cX1_leaveStation) (maxL := 4) (ret := none) (by decide) rfl ?_
  intro p e s m args below meth c s₁ B hml hv
  obtain ⟨hargs, hsz, hP, hK, hD0⟩ := hv
  have hx := B.exec
  have hb := B.bytes
  have hr := B.returns
  have hts := atoms_spec (ws := wz_X1_leaveStation) B.pre
  have htl : ∀ w ∈ wsL_law, w.before args s = true := fun w h => hts w (List.mem_cons_of_mem _ h)
  have hown : s.vm.findClass RX1 = some m.cls := findClass_of_methodNamed B.named
  have hlocks := B.notSynchronized
  subst hsz
  have hD := hD0.self (sz := s.heap.size)
  generalize hAe : va_A (wDr K hDr rDr1 rDr3 rDr4 sDr ++ wRo K hRo sRo) s.heap.size = A at hD ⊢
  have hA : ∀ q : Nat, s.heap.size ≤ q → A q := fun q h => by rw [← hAe]; exact Or.inr h
  have hS : va_S A s.heap s.heap [] := va_S.rf
  have iX1 : ∀ w ∈ wsX10, w ∈ wz_X1_leaveStation := fun w h => List.mem_cons_of_mem _ (inlX1 w h)
  have iX9 : ∀ w ∈ wsX90, w ∈ wz_X1_leaveStation := fun w h => List.mem_cons_of_mem _ (inlX9 w h)
  suffices hgo : ∀ Q : State → Prop, Q = MQ below (va_Qv (fun u => u = res) (fun u t => BW D K A (wDr K hDr rDr1 rDr3 rDr4 u ++ wRo K hRo sRo) t) A) args s 0 0 A → W p l e (headSpec wz_X1_leaveStation r_X1_leaveStation).room s m args below meth c s.heap [] 0 0 Q (entryFrame m args 4) from hgo _ rfl
  intro Q hQ
  have w31 : ∀ (y1 : Int32), ∀ (y2 : Int32), ∀ (y3 : Int64), ∀ (sDr : MS), ∀ (H : Heap) (locs : List Loc) (ls : Array Slot), f_X1_leaveStation_31 F sRo p2 p3 y1 y2 y3 sDr = some res → va_P D vwCl (wDr K hDr rDr1 rDr3 rDr4 sDr ++ wRo K hRo sRo) H → va_D A (wDr K hDr rDr1 rDr3 rDr4 sDr ++ wRo K hRo sRo) → va_S A s.heap H locs → lv_has ls 4 [] → W p l e (headSpec wz_X1_leaveStation r_X1_leaveStation).room s m args below meth c H locs 0 0 Q (F0 m 31 ls [.long y3, .int y2, .int y1, .ref (hDr 2)]) := by
    intro y1 y2 y3 sDr H locs ls hf hP hD hS hl
    unfold f_X1_leaveStation_31 at hf
    obtain ⟨o3, go3, hf⟩ := bd_s hf
    refine rw_Sv (wn := wDr K hDr rDr1 rDr3 rDr4 (wB sDr 2 o3) ++ wRo K hRo sRo) (As := [.ref (hDr 2), .int y1, .int y2, .long y3]) (rest := []) ⟨hx, hb, hml, hown, hts⟩ (c_X4_leave l D K F (hDr 2) 41 H.size (sDr.2.2.2 2) y1 y2 y3 o3 go3) (va_cwS 4 hts (gcS_X4_leave (mB43 _ (List.mem_of_getElem? (i := 9) rfl))) rfl rfl rfl hdS_X4_leave ⟨Nat.le_of_ble_eq_true rfl, Nat.le_of_ble_eq_true rfl⟩) hK hP hD hS hA [1] [0, 2, 3, 4, 5, 6, 7, 8, 9, 10, 11] [0, 11, 1, 2, 3, 4, 5, 6, 7, 8, 9, 10] rfl rfl (by decide +kernel) (by decide +kernel) (by decide +kernel) rfl (by decide +kernel) rfl hl.1 rfl (Nat.le_of_ble_eq_true rfl) dX1_leaveStation_31 ⟨Nat.zero_le _, Nat.zero_le _⟩ (fun H locs hP hD hS => ?_)
    have hP : va_P D vwCl (wDr K hDr rDr1 rDr3 rDr4 (wB sDr 2 o3) ++ wRo K hRo sRo) H := hP
    have hD : va_D A (wDr K hDr rDr1 rDr3 rDr4 (wB sDr 2 o3) ++ wRo K hRo sRo) := hD
    obtain ⟨s4, es4⟩ : ∃ z, z = (wB sDr 2 o3) := ⟨_, rfl⟩
    have hP : va_P D vwCl (wDr K hDr rDr1 rDr3 rDr4 s4 ++ wRo K hRo sRo) H := by rw [es4]; exact hP
    have hD : va_D A (wDr K hDr rDr1 rDr3 rDr4 s4 ++ wRo K hRo sRo) := by rw [es4]; exact hD
    have hf := lz_s hf s4 es4
    have e9 := Option.some.inj hf
    rw [hQ]
    exact W.vret hx hb hr (fun t ht hW => ⟨⟨s4, rfl, e9, ⟨by rw [ht]; exact hP, va_K.moved hW.alike hK, hD⟩⟩, hS.F ht⟩) hS.2.2 dX1_leaveStation_34
  have hen : entryFrame m args 4 = entryFrame m (([.ref (hDr 99), .ref (hRo 99), .int p2, .int p3] : List Value).toArray) 4 := by rw [hargs]
  have hl := lv_entry ([.ref (hDr 99), .ref (hRo 99), .int p2, .int p3]) (n := 4) (Nat.le_of_ble_eq_true rfl)
  rw [hen, lg_entry_eq]
  generalize (lg_sl ([.ref (hDr 99), .ref (hRo 99), .int p2, .int p3]) ++ List.replicate (4 - (lg_sl ([.ref (hDr 99), .ref (hRo 99), .int p2, .int p3])).length) Slot.unset).toArray = ls at hl ⊢
  have hl : lv_has ls 4 [(0, .ref (hDr 99)), (1, .ref (hRo 99)), (2, .int p2), (3, .int p3)] := hl
  unfold f_X1_leaveStation at hf
  obtain ⟨H, hHe⟩ : ∃ z, z = s.heap := ⟨_, rfl⟩
  obtain ⟨locs, hLe⟩ : ∃ z : List Loc, z = [] := ⟨_, rfl⟩
  rw [← hLe]
  have hS : va_S A s.heap H locs := by rw [hHe, hLe]; exact hS
  have hP : va_P D vwCl (wDr K hDr rDr1 rDr3 rDr4 sDr ++ wRo K hRo sRo) H := by rw [hHe]; exact hP
  have hgo : W p l e (headSpec wz_X1_leaveStation r_X1_leaveStation).room s m args below meth c H locs 0 0 Q (F0 m 0 ls []) := by
    refine lv_aload_n hx hb dX1_leaveStation_0 rfl (lv_at hl 0 rfl) ?_
    refine va_get (D := D) (ci := 1) (v := .ref (hDr 2)) (C := RX1) (T := TX1) (N := 6) hx hb hts iX1 hown hK hP 0 (rwl o_Dr) rfl 2 (by decide) (htl _ (mB4 _ (List.mem_of_getElem? (i := 13) rfl))) (fun _ h9 => h9) rfl dX1_leaveStation_1 ?_
    refine lv_aload_n hx hb dX1_leaveStation_4 rfl (lv_at hl 1 rfl) ?_
    refine va_get (D := D) (ci := 8) (v := .int (sRo.1 0)) (C := RX9) (T := TX9) (N := 19) hx hb hts iX9 hown hK hP (2 + 0) (rwr ln_Dr o_Ro) rfl 0 (by decide) (htl _ (mB39 _ (List.mem_of_getElem? (i := 13) rfl))) (fun _ h9 => h9) rfl dX1_leaveStation_5 ?_
    refine lv_aload_n hx hb dX1_leaveStation_8 rfl (lv_at hl 1 rfl) ?_
    refine lv_iload_n hx hb dX1_leaveStation_9 rfl (lv_at hl 2 rfl) ?_
    obtain ⟨o1, go1, hf⟩ := bd_s hf
    refine ro_Vi (As := [.int p2]) (rest := [.int (sRo.1 0), .ref (hDr 2)]) ⟨hx, hb, hml, hown, hts⟩ (c_X9_legPints l D K F hRo sRo p2 o1 go1) (cwV 1 hts (gcV_X9_legPints (mB41 _ (List.mem_of_getElem? (i := 18) rfl))) rfl rfl rfl hdV_X9_legPints ⟨Nat.le_of_ble_eq_true rfl, Nat.le_of_ble_eq_true rfl⟩) hK hP hS (va_PL (cs := [wDr K hDr rDr1 rDr3 rDr4 sDr, wRo K hRo sRo]) (cc := [wRo K hRo sRo]) hP (fl2 _ _) [1] rfl (fl1 _)) (va_recv hK hP (ci := 8) (q0 := (2 + 0)) rfl (rwr ln_Dr o_Ro)) rfl hl.1 rfl (Nat.le_of_ble_eq_true rfl) dX1_leaveStation_10 ⟨Nat.zero_le _, Nat.zero_le _⟩ (fun H locs hP hS => ?_)
    refine lv_iload_n hx hb dX1_leaveStation_13 rfl (lv_at hl 3 rfl) ?_
    refine lv_if_eq (tgt := 21) hx hb dX1_leaveStation_14 (by decide) (fun c2 => ?_) (fun c2 => ?_)
    · have hf := it_t hf c2
      refine lv_aload_n hx hb dX1_leaveStation_21 rfl (lv_at hl 1 rfl) ?_
      refine va_get (D := D) (ci := 8) (v := .int (sRo.1 4)) (C := RX9) (T := TX9) (N := 19) hx hb hts iX9 hown hK hP (2 + 0) (rwr ln_Dr o_Ro) rfl 4 (by decide) (htl _ (mB43 _ (List.mem_of_getElem? (i := 8) rfl))) (fun _ h9 => h9) rfl dX1_leaveStation_22 ?_
      refine lv_i2l (v := (sRo.1 4).toInt64) hx hb dX1_leaveStation_25 rfl ?_
      refine lv_aload_n hx hb dX1_leaveStation_26 rfl (lv_at hl 0 rfl) ?_
      refine va_get (D := D) (ci := 1) (v := .long (sDr.2.1 5)) (C := RX1) (T := TX1) (N := 6) hx hb hts iX1 hown hK hP 0 (rwl o_Dr) rfl 5 (by decide) (htl _ (mB42 _ (List.mem_of_getElem? (i := 21) rfl))) (fun _ h9 => h9) rfl dX1_leaveStation_27 ?_
      refine lv_lmul hx hb dX1_leaveStation_30 ?_
      exact w31 (sRo.1 0) o1 ((sRo.1 4).toInt64 * (sDr.2.1 5)) sDr H locs ls hf hP hD hS (lv_sub hl [] rfl)
    · have hf := it_f hf c2
      refine lv_lconst (v := (0 : Int64)) hx hb dX1_leaveStation_17 (by decide) ?_
      refine lv_goto (tgt := 31) hx hb dX1_leaveStation_18 (by decide) ?_
      exact w31 (sRo.1 0) o1 (0 : Int64) sDr H locs ls hf hP hD hS (lv_sub hl [] rfl)
  rw [hHe] at hgo
  exact hgo

theorem gcS_X4_choose {T0 : Cond} {own : String} {i : Nat} (h : Cond.methodLink own i yX4_choose ∈ wsL_law) : GoodIn (T0 :: wsL_law) (va_wsS own i yX4_choose wz_X4_choose) := gS h (mB32 _ (List.mem_of_getElem? (i := 22) rfl)) (mB32 _ (List.mem_of_getElem? (i := 15) rfl)) (mB32 _ (List.mem_of_getElem? (i := 23) rfl))
theorem hdS_X4_choose : yX4_choose.cls ≠ "java/lang/invoke/MethodHandle" ∧ yX4_choose.cls ≠ "java/lang/invoke/VarHandle" ∧ (parseMethodDescriptor yX4_choose.desc).map (fun d => d.parameters.length) = some 5 := by decide +kernel
def wz_X1_chooseAll : List Cond := .code yX1_chooseAll cX1_chooseAll 9 none :: wsL_law
abbrev r_X1_chooseAll : Room := { frames := 3, cells := 0, slots := 0, locals := 70 }
set_option maxHeartbeats 4000000 in
set_option maxRecDepth 100000 in
theorem c_X1_chooseAll (l : Launch) (D : va_G) (K : Nat → ClassId) (F : Nat) (hDr : Nat → Nat) (rDr1 : Nat) (rDr3 : Nat) (rDr4 : Nat) (hRo : Nat → Nat) (aq0 nq0 : Nat) (sz : Nat) (sDr : MS) (sRo : MS) (fq0 : (Nat → Int32)) (p2 : Int32) (p3 : Int32) (p4 : Int32) (p5 : Int64) (res : (Nat → Int32)) (hf : f_X1_chooseAll F sDr sRo nq0 p2 p3 p4 p5 fq0 = some res) : Met l yX1_chooseAll wz_X1_chooseAll r_X1_chooseAll (va_Pc [.ref (hDr 99), .ref (hRo 99), .int p2, .int p3, .int p4, .long p5, .ref aq0] (PW D K (wDr K hDr rDr1 rDr3 rDr4 sDr ++ wRo K hRo sRo ++ wAI K aq0 nq0 fq0) sz)) (va_Qv (fun u => u = res) (fun u t => BW D K (va_A (wDr K hDr rDr1 rDr3 rDr4 sDr ++ wRo K hRo sRo ++ wAI K aq0 nq0 fq0) sz) (wDr K hDr rDr1 rDr3 rDr4 sDr ++ wRo K hRo sRo ++ wAI K aq0 nq0 u) t) (va_A (wDr K hDr rDr1 rDr3 rDr4 sDr ++ wRo K hRo sRo ++ wAI K aq0 nq0 fq0) sz)) 0 0 (va_A (wDr K hDr rDr1 rDr3 rDr4 sDr ++ wRo K hRo sRo ++ wAI K aq0 nq0 fq0) sz) := by
  refine Met.ofW (cc := cX1_chooseAll) (maxL := 9) (ret := none) (by decide) rfl ?_
  intro p e s m args below meth c s₁ B hml hv
  obtain ⟨hargs, hsz, hP, hK, hD0⟩ := hv
  have hx := B.exec
  have hb := B.bytes
  have hr := B.returns
  have hts := atoms_spec (ws := wz_X1_chooseAll) B.pre
  have htl : ∀ w ∈ wsL_law, w.before args s = true := fun w h => hts w (List.mem_cons_of_mem _ h)
  have hown : s.vm.findClass RX1 = some m.cls := findClass_of_methodNamed B.named
  have hlocks := B.notSynchronized
  subst hsz
  have hD := hD0.self (sz := s.heap.size)
  generalize hAe : va_A (wDr K hDr rDr1 rDr3 rDr4 sDr ++ wRo K hRo sRo ++ wAI K aq0 nq0 fq0) s.heap.size = A at hD ⊢
  have hA : ∀ q : Nat, s.heap.size ≤ q → A q := fun q h => by rw [← hAe]; exact Or.inr h
  have hS : va_S A s.heap s.heap [] := va_S.rf
  have iX1 : ∀ w ∈ wsX10, w ∈ wz_X1_chooseAll := fun w h => List.mem_cons_of_mem _ (inlX1 w h)
  have iX9 : ∀ w ∈ wsX90, w ∈ wz_X1_chooseAll := fun w h => List.mem_cons_of_mem _ (inlX9 w h)
  suffices hgo : ∀ Q : State → Prop, Q = MQ below (va_Qv (fun u => u = res) (fun u t => BW D K A (wDr K hDr rDr1 rDr3 rDr4 sDr ++ wRo K hRo sRo ++ wAI K aq0 nq0 u) t) A) args s 0 0 A → W p l e (headSpec wz_X1_chooseAll r_X1_chooseAll).room s m args below meth c s.heap [] 0 0 Q (entryFrame m args 9) from hgo _ rfl
  intro Q hQ
  have w36 : ∀ (n : Nat), ∀ (x8 : Int32), ∀ (fq0 : (Nat → Int32)), ∀ (H : Heap) (locs : List Loc) (ls : Array Slot), f_X1_chooseAll_36 F sDr sRo nq0 p2 p3 p4 p5 n x8 fq0 = some res → va_P D vwCl (wDr K hDr rDr1 rDr3 rDr4 sDr ++ wRo K hRo sRo ++ wAI K aq0 nq0 fq0) H → va_D A (wDr K hDr rDr1 rDr3 rDr4 sDr ++ wRo K hRo sRo ++ wAI K aq0 nq0 fq0) → va_S A s.heap H locs → lv_has ls 9 [(0, .ref (hDr 99)), (1, .ref (hRo 99)), (2, .int p2), (3, .int p3), (4, .int p4), (7, .ref aq0), (8, .int x8)] → W p l e (headSpec wz_X1_chooseAll r_X1_chooseAll).room s m args below meth c H locs 0 0 Q (F0 m 36 ls []) := by
    intro n
    induction n with
    | zero =>
      intro x8 fq0 H locs ls hf
      exact absurd (show none = some res from hf) (fun h => nomatch h)
    | succ n ih =>
      intro x8 fq0 H locs ls hf hP hD hS hl
      rw [f_X1_chooseAll_36] at hf
      refine lv_iload hx hb dX1_chooseAll_36 (lv_at hl 6 rfl) ?_
      refine lv_aload_n hx hb dX1_chooseAll_38 rfl (lv_at hl 1 rfl) ?_
      refine va_get (D := D) (ci := 8) (v := .int (sRo.1 0)) (C := RX9) (T := TX9) (N := 19) hx hb hts iX9 hown hK hP (2 + 0) (rwl (rwr ln_Dr o_Ro)) rfl 0 (by decide) (htl _ (mB39 _ (List.mem_of_getElem? (i := 13) rfl))) (fun _ h9 => h9) rfl dX1_chooseAll_39 ?_
      refine lv_icmp_gt (tgt := 70) hx hb dX1_chooseAll_42 (by decide) (fun c3 => ?_) (fun c3 => ?_)
      · have hf := it_t hf c3
        have e9 := Option.some.inj hf
        rw [hQ]
        exact W.vret hx hb hr (fun t ht hW => ⟨⟨fq0, rfl, e9, ⟨by rw [ht]; exact hP, va_K.moved hW.alike hK, hD⟩⟩, hS.F ht⟩) hS.2.2 dX1_chooseAll_70
      · have hf := it_f hf c3
        refine lv_aload hx hb dX1_chooseAll_45 (lv_at hl 5 rfl) ?_
        refine lv_iload hx hb dX1_chooseAll_47 (lv_at hl 6 rfl) ?_
        refine lv_iload hx hb dX1_chooseAll_49 (lv_at hl 6 rfl) ?_
        refine lv_aload_n hx hb dX1_chooseAll_51 rfl (lv_at hl 0 rfl) ?_
        refine lv_aload_n hx hb dX1_chooseAll_52 rfl (lv_at hl 1 rfl) ?_
        refine lv_iload_n hx hb dX1_chooseAll_53 rfl (lv_at hl 2 rfl) ?_
        refine lv_iload_n hx hb dX1_chooseAll_54 rfl (lv_at hl 3 rfl) ?_
        refine lv_iload hx hb dX1_chooseAll_55 (lv_at hl 6 rfl) ?_
        refine lv_iload hx hb dX1_chooseAll_57 (lv_at hl 4 rfl) ?_
        obtain ⟨o4, go4, hf⟩ := bd_s hf
        refine ro_Vi (As := [.ref (hRo 99), .int p2, .int p3, .int x8, .int p4]) (rest := [.int x8, .int x8, .ref aq0]) ⟨hx, hb, hml, hown, hts⟩ (c_X1_pintsByRule l D K F hDr rDr1 rDr3 rDr4 hRo sDr sRo p2 p3 x8 p4 o4 go4) (cwV 5 hts (gcV_X1_pintsByRule (mB41 _ (List.mem_of_getElem? (i := 17) rfl))) rfl rfl rfl hdV_X1_pintsByRule ⟨Nat.le_of_ble_eq_true rfl, Nat.le_of_ble_eq_true rfl⟩) hK hP hS (va_PL (cs := [wDr K hDr rDr1 rDr3 rDr4 sDr, wRo K hRo sRo, wAI K aq0 nq0 fq0]) (cc := [wDr K hDr rDr1 rDr3 rDr4 sDr, wRo K hRo sRo]) hP (fl3 _ _ _) [0, 1] rfl (fl2 _ _)) (va_recv hK hP (ci := 1) (q0 := 0) rfl (rwl (rwl o_Dr))) rfl hl.1 rfl (Nat.le_of_ble_eq_true rfl) dX1_chooseAll_59 ⟨Nat.zero_le _, Nat.zero_le _⟩ (fun H locs hP hS => ?_)
        refine lv_iadd hx hb dX1_chooseAll_62 ?_
        obtain ⟨g5, hf⟩ := gd_s hf
        refine va_iast hx hb hK hP hD hS ((2 + 10) + 0) 0 (f := fq0) (rwr (lnA ln_Dr ln_Ro) o_AI) rfl (vpb_in g5) dX1_chooseAll_63 (fun H locs hP hD hS => ?_)
        have hP := cvP (str (lnA ln_Dr ln_Ro) s_AI) hP
        have hD := cvD (str (lnA ln_Dr ln_Ro) s_AI) hD
        obtain ⟨g6, eg6⟩ : ∃ z, z = upd fq0 x8.toNatClampNeg (x8 + o4) := ⟨_, rfl⟩
        have hP : va_P D vwCl (wDr K hDr rDr1 rDr3 rDr4 sDr ++ wRo K hRo sRo ++ wAI K aq0 nq0 g6) H := by rw [eg6]; exact hP
        have hD : va_D A (wDr K hDr rDr1 rDr3 rDr4 sDr ++ wRo K hRo sRo ++ wAI K aq0 nq0 g6) := by rw [eg6]; exact hD
        have hf := lz_s hf g6 eg6
        obtain ⟨v7, ev7⟩ : ∃ z : Int32, z = x8 + (1 : Int32) := ⟨_, rfl⟩
        have hf := lz_s hf v7 ev7
        refine lv_iinc (v := v7) (lv' := [(8, .int v7), (0, .ref (hDr 99)), (1, .ref (hRo 99)), (2, .int p2), (3, .int p3), (4, .int p4), (7, .ref aq0)]) hx hb dX1_chooseAll_64 hl (k := 6) rfl (by rw [ev7]; rfl) (by decide) rfl (fun ls hl => ?_)
        refine lv_goto (tgt := 36) hx hb dX1_chooseAll_67 (by decide) ?_
        exact ih v7 g6 H locs ls hf hP hD hS (lv_sub hl [1, 2, 3, 4, 5, 6, 0] rfl)
  have hen : entryFrame m args 9 = entryFrame m (([.ref (hDr 99), .ref (hRo 99), .int p2, .int p3, .int p4, .long p5, .ref aq0] : List Value).toArray) 9 := by rw [hargs]
  have hl := lv_entry ([.ref (hDr 99), .ref (hRo 99), .int p2, .int p3, .int p4, .long p5, .ref aq0]) (n := 9) (Nat.le_of_ble_eq_true rfl)
  rw [hen, lg_entry_eq]
  generalize (lg_sl ([.ref (hDr 99), .ref (hRo 99), .int p2, .int p3, .int p4, .long p5, .ref aq0]) ++ List.replicate (9 - (lg_sl ([.ref (hDr 99), .ref (hRo 99), .int p2, .int p3, .int p4, .long p5, .ref aq0])).length) Slot.unset).toArray = ls at hl ⊢
  have hl : lv_has ls 9 [(0, .ref (hDr 99)), (1, .ref (hRo 99)), (2, .int p2), (3, .int p3), (4, .int p4), (5, .long p5), (7, .ref aq0)] := hl
  unfold f_X1_chooseAll at hf
  obtain ⟨H, hHe⟩ : ∃ z, z = s.heap := ⟨_, rfl⟩
  obtain ⟨locs, hLe⟩ : ∃ z : List Loc, z = [] := ⟨_, rfl⟩
  rw [← hLe]
  have hS : va_S A s.heap H locs := by rw [hHe, hLe]; exact hS
  have hP : va_P D vwCl (wDr K hDr rDr1 rDr3 rDr4 sDr ++ wRo K hRo sRo ++ wAI K aq0 nq0 fq0) H := by rw [hHe]; exact hP
  have hgo : W p l e (headSpec wz_X1_chooseAll r_X1_chooseAll).room s m args below meth c H locs 0 0 Q (F0 m 0 ls []) := by
    refine lv_iload_n hx hb dX1_chooseAll_0 rfl (lv_at hl 2 rfl) ?_
    refine lv_iconst (v := (4 : Int32)) hx hb dX1_chooseAll_1 (by decide) ?_
    refine lv_icmp_ne (tgt := 33) hx hb dX1_chooseAll_2 (by decide) (fun c1 => ?_) (fun c1 => ?_)
    · have hf := it_f hf c1
      refine lv_iconst (v := (0 : Int32)) hx hb dX1_chooseAll_33 (by decide) ?_
      refine lv_istore (lv' := [(8, .int (0 : Int32)), (0, .ref (hDr 99)), (1, .ref (hRo 99)), (2, .int p2), (3, .int p3), (4, .int p4), (5, .long p5), (7, .ref aq0)]) hx hb dX1_chooseAll_34 hl (by decide) rfl (fun ls hl => ?_)
      exact w36 F (0 : Int32) fq0 H locs ls hf hP hD hS (lv_sub hl [1, 2, 3, 4, 5, 7, 0] rfl)
    · have hf := it_t hf c1
      refine lv_aload_n hx hb dX1_chooseAll_5 rfl (lv_at hl 0 rfl) ?_
      refine va_get (D := D) (ci := 1) (v := .ref (hDr 2)) (C := RX1) (T := TX1) (N := 6) hx hb hts iX1 hown hK hP 0 (rwl (rwl o_Dr)) rfl 2 (by decide) (htl _ (mB4 _ (List.mem_of_getElem? (i := 13) rfl))) (fun _ h9 => h9) rfl dX1_chooseAll_6 ?_
      refine lv_aload_n hx hb dX1_chooseAll_9 rfl (lv_at hl 1 rfl) ?_
      refine va_get (D := D) (ci := 8) (v := .int (sRo.1 0)) (C := RX9) (T := TX9) (N := 19) hx hb hts iX9 hown hK hP (2 + 0) (rwl (rwr ln_Dr o_Ro)) rfl 0 (by decide) (htl _ (mB39 _ (List.mem_of_getElem? (i := 13) rfl))) (fun _ h9 => h9) rfl dX1_chooseAll_10 ?_
      refine lv_iload hx hb dX1_chooseAll_13 (lv_at hl 4 rfl) ?_
      refine lv_i2l (v := p4.toInt64) hx hb dX1_chooseAll_15 rfl ?_
      refine lv_lload hx hb dX1_chooseAll_16 (lv_at hl 5 rfl) ?_
      refine lv_lmul hx hb dX1_chooseAll_18 ?_
      refine lv_aload_n hx hb dX1_chooseAll_19 rfl (lv_at hl 1 rfl) ?_
      refine va_get (D := D) (ci := 8) (v := .int (sRo.1 2)) (C := RX9) (T := TX9) (N := 19) hx hb hts iX9 hown hK hP (2 + 0) (rwl (rwr ln_Dr o_Ro)) rfl 2 (by decide) (htl _ (mB41 _ (List.mem_of_getElem? (i := 15) rfl))) (fun _ h9 => h9) rfl dX1_chooseAll_20 ?_
      refine lv_i2l (v := (sRo.1 2).toInt64) hx hb dX1_chooseAll_23 rfl ?_
      refine lv_lload hx hb dX1_chooseAll_24 (lv_at hl 5 rfl) ?_
      refine lv_lmul hx hb dX1_chooseAll_26 ?_
      refine lv_aload hx hb dX1_chooseAll_27 (lv_at hl 6 rfl) ?_
      obtain ⟨o2, go2, hf⟩ := bd_s hf
      refine rw_Sv (wn := wDr K hDr rDr1 rDr3 rDr4 sDr ++ wRo K hRo sRo ++ wAI K aq0 nq0 o2) (As := [.ref (hDr 2), .int (sRo.1 0), .long (p4.toInt64 * p5), .long ((sRo.1 2).toInt64 * p5), .ref aq0]) (rest := []) ⟨hx, hb, hml, hown, hts⟩ (c_X4_choose l D K F (hDr 2) 41 aq0 nq0 H.size (sDr.2.2.2 2) fq0 (sRo.1 0) (p4.toInt64 * p5) ((sRo.1 2).toInt64 * p5) o2 go2) (va_cwS 5 hts (gcS_X4_choose (mB43 _ (List.mem_of_getElem? (i := 19) rfl))) rfl rfl rfl hdS_X4_choose ⟨Nat.le_of_ble_eq_true rfl, Nat.le_of_ble_eq_true rfl⟩) hK hP hD hS hA [1, 12] [0, 2, 3, 4, 5, 6, 7, 8, 9, 10, 11] [0, 11, 1, 2, 3, 4, 5, 6, 7, 8, 9, 10, 12] rfl rfl (by decide +kernel) (by decide +kernel) (by decide +kernel) rfl (by decide +kernel) rfl hl.1 rfl (Nat.le_of_ble_eq_true rfl) dX1_chooseAll_29 ⟨Nat.zero_le _, Nat.zero_le _⟩ (fun H locs hP hD hS => ?_)
      have hP : va_P D vwCl (wDr K hDr rDr1 rDr3 rDr4 sDr ++ wRo K hRo sRo ++ wAI K aq0 nq0 o2) H := hP
      have hD : va_D A (wDr K hDr rDr1 rDr3 rDr4 sDr ++ wRo K hRo sRo ++ wAI K aq0 nq0 o2) := hD
      have e9 := Option.some.inj hf
      rw [hQ]
      exact W.vret hx hb hr (fun t ht hW => ⟨⟨o2, rfl, e9, ⟨by rw [ht]; exact hP, va_K.moved hW.alike hK, hD⟩⟩, hS.F ht⟩) hS.2.2 dX1_chooseAll_32
  rw [hHe] at hgo
  exact hgo

theorem gcV_X1_chooseAll {T0 : Cond} {own : String} {i : Nat} (h : Cond.methodLink own i yX1_chooseAll ∈ wsL_law) : GoodIn (T0 :: wsL_law) (wsV own i RX1 yX1_chooseAll wz_X1_chooseAll) := gV h (mB43 _ (List.mem_of_getElem? (i := 16) rfl)) (mB43 _ (List.mem_of_getElem? (i := 17) rfl)) (mB2 _ (List.mem_of_getElem? (i := 6) rfl)) (mB43 _ (List.mem_of_getElem? (i := 18) rfl))
theorem hdV_X1_chooseAll : yX1_chooseAll.cls = RX1 ∧ yX1_chooseAll.cls ≠ "java/lang/invoke/MethodHandle" ∧ yX1_chooseAll.cls ≠ "java/lang/invoke/VarHandle" ∧ (parseMethodDescriptor yX1_chooseAll.desc).map (fun d => d.parameters.length) = some 6 := by decide +kernel
theorem gcS_X4_spend {T0 : Cond} {own : String} {i : Nat} (h : Cond.methodLink own i yX4_spend ∈ wsL_law) : GoodIn (T0 :: wsL_law) (va_wsS own i yX4_spend wz_X4_spend) := gS h (mB33 _ (List.mem_of_getElem? (i := 1) rfl)) (mB32 _ (List.mem_of_getElem? (i := 15) rfl)) (mB33 _ (List.mem_of_getElem? (i := 2) rfl))
theorem hdS_X4_spend : yX4_spend.cls ≠ "java/lang/invoke/MethodHandle" ∧ yX4_spend.cls ≠ "java/lang/invoke/VarHandle" ∧ (parseMethodDescriptor yX4_spend.desc).map (fun d => d.parameters.length) = some 5 := by decide +kernel
def wz_X1_meetPump : List Cond := .code yX1_meetPump cX1_meetPump 16 none :: wsL_law
abbrev r_X1_meetPump : Room := { frames := 4, cells := 0, slots := 0, locals := 98 }
set_option maxHeartbeats 4000000 in
set_option maxRecDepth 100000 in
theorem c_X1_meetPump (l : Launch) (D : va_G) (K : Nat → ClassId) (F : Nat) (hDr : Nat → Nat) (rDr1 : Nat) (aDc nDc : Nat) (aDd nDd : Nat) (hRo : Nat → Nat) (sz : Nat) (sDr : MS) (fDc : (Nat → Int32)) (fDd : (Nat → Int32)) (sRo : MS) (p2 : Int32) (p3 : Int32) (p4 : Int64) (res : MS × (Nat → Int32) × (Nat → Int32)) (hf : f_X1_meetPump F nDc nDd sRo p2 p3 p4 sDr fDc fDd = some res) : Met l yX1_meetPump wz_X1_meetPump r_X1_meetPump (va_Pc [.ref (hDr 99), .ref (hRo 99), .int p2, .int p3, .long p4] (PW D K (wDr K hDr rDr1 aDc aDd sDr ++ wAI K aDc nDc fDc ++ wAI K aDd nDd fDd ++ wRo K hRo sRo) sz)) (va_Qv (fun u => u = res) (fun u t => BW D K (va_A (wDr K hDr rDr1 aDc aDd sDr ++ wAI K aDc nDc fDc ++ wAI K aDd nDd fDd ++ wRo K hRo sRo) sz) (wDr K hDr rDr1 aDc aDd u.1 ++ wAI K aDc nDc u.2.1 ++ wAI K aDd nDd u.2.2 ++ wRo K hRo sRo) t) (va_A (wDr K hDr rDr1 aDc aDd sDr ++ wAI K aDc nDc fDc ++ wAI K aDd nDd fDd ++ wRo K hRo sRo) sz)) 0 0 (va_A (wDr K hDr rDr1 aDc aDd sDr ++ wAI K aDc nDc fDc ++ wAI K aDd nDd fDd ++ wRo K hRo sRo) sz) := by
  refine Met.ofW (cc := cX1_meetPump) (maxL := 16) (ret := none) (by decide) rfl ?_
  intro p e s m args below meth c s₁ B hml hv
  obtain ⟨hargs, hsz, hP, hK, hD0⟩ := hv
  have hx := B.exec
  have hb := B.bytes
  have hr := B.returns
  have hts := atoms_spec (ws := wz_X1_meetPump) B.pre
  have htl : ∀ w ∈ wsL_law, w.before args s = true := fun w h => hts w (List.mem_cons_of_mem _ h)
  have hown : s.vm.findClass RX1 = some m.cls := findClass_of_methodNamed B.named
  have hlocks := B.notSynchronized
  subst hsz
  have hD := hD0.self (sz := s.heap.size)
  generalize hAe : va_A (wDr K hDr rDr1 aDc aDd sDr ++ wAI K aDc nDc fDc ++ wAI K aDd nDd fDd ++ wRo K hRo sRo) s.heap.size = A at hD ⊢
  have hA : ∀ q : Nat, s.heap.size ≤ q → A q := fun q h => by rw [← hAe]; exact Or.inr h
  have hS : va_S A s.heap s.heap [] := va_S.rf
  have iX1 : ∀ w ∈ wsX10, w ∈ wz_X1_meetPump := fun w h => List.mem_cons_of_mem _ (inlX1 w h)
  have iX9 : ∀ w ∈ wsX90, w ∈ wz_X1_meetPump := fun w h => List.mem_cons_of_mem _ (inlX9 w h)
  suffices hgo : ∀ Q : State → Prop, Q = MQ below (va_Qv (fun u => u = res) (fun u t => BW D K A (wDr K hDr rDr1 aDc aDd u.1 ++ wAI K aDc nDc u.2.1 ++ wAI K aDd nDd u.2.2 ++ wRo K hRo sRo) t) A) args s 0 0 A → W p l e (headSpec wz_X1_meetPump r_X1_meetPump).room s m args below meth c s.heap [] 0 0 Q (entryFrame m args 16) from hgo _ rfl
  intro Q hQ
  have w86 : ∀ (n : Nat), ∀ (x6 : Int32), ∀ (x7 : Int32), ∀ (x8 : Int32), ∀ (x9 : Int64), ∀ (x11 : Int32), ∀ (sDr : MS), ∀ (fDc : (Nat → Int32)), ∀ (fDd : (Nat → Int32)), ∀ (H : Heap) (locs : List Loc) (ls : Array Slot), f_X1_meetPump_86 F nDc nDd sRo p2 p3 p4 n x6 x7 x8 x9 x11 sDr fDc fDd = some res → va_P D vwCl (wDr K hDr rDr1 aDc aDd sDr ++ wAI K aDc nDc fDc ++ wAI K aDd nDd fDd ++ wRo K hRo sRo) H → va_D A (wDr K hDr rDr1 aDc aDd sDr ++ wAI K aDc nDc fDc ++ wAI K aDd nDd fDd ++ wRo K hRo sRo) → va_S A s.heap H locs → lv_has ls 16 [(0, .ref (hDr 99)), (1, .ref (hRo 99)), (4, .long p4), (6, .int x6), (7, .int x7), (8, .int x8), (9, .long x9), (11, .int x11)] → W p l e (headSpec wz_X1_meetPump r_X1_meetPump).room s m args below meth c H locs 0 0 Q (F0 m 86 ls []) := by
    intro n
    induction n with
    | zero =>
      intro x6 x7 x8 x9 x11 sDr fDc fDd H locs ls hf
      exact absurd (show none = some res from hf) (fun h => nomatch h)
    | succ n ih =>
      intro x6 x7 x8 x9 x11 sDr fDc fDd H locs ls hf hP hD hS hl
      rw [f_X1_meetPump_86] at hf
      refine lv_iload hx hb dX1_meetPump_86 (lv_at hl 7 rfl) ?_
      refine lv_aload_n hx hb dX1_meetPump_88 rfl (lv_at hl 1 rfl) ?_
      refine va_get (D := D) (ci := 8) (v := .int (sRo.1 0)) (C := RX9) (T := TX9) (N := 19) hx hb hts iX9 hown hK hP (((2 + 1) + 1) + 0) (rwr (lnA (lnA ln_Dr ln_AI) ln_AI) o_Ro) rfl 0 (by decide) (htl _ (mB39 _ (List.mem_of_getElem? (i := 13) rfl))) (fun _ h9 => h9) rfl dX1_meetPump_89 ?_
      refine lv_icmp_gt (tgt := 186) hx hb dX1_meetPump_92 (by decide) (fun c12 => ?_) (fun c12 => ?_)
      · have hf := it_t hf c12
        have e9 := Option.some.inj hf
        rw [hQ]
        exact W.vret hx hb hr (fun t ht hW => ⟨⟨(sDr, fDc, fDd), rfl, e9, ⟨by rw [ht]; exact hP, va_K.moved hW.alike hK, hD⟩⟩, hS.F ht⟩) hS.2.2 dX1_meetPump_186
      · have hf := it_f hf c12
        refine lv_aload_n hx hb dX1_meetPump_95 rfl (lv_at hl 0 rfl) ?_
        refine va_get (D := D) (ci := 1) (v := .ref (hDr 2)) (C := RX1) (T := TX1) (N := 6) hx hb hts iX1 hown hK hP 0 (rwl (rwl (rwl o_Dr))) rfl 2 (by decide) (htl _ (mB4 _ (List.mem_of_getElem? (i := 13) rfl))) (fun _ h9 => h9) rfl dX1_meetPump_96 ?_
        refine lv_iload hx hb dX1_meetPump_99 (lv_at hl 7 rfl) ?_
        refine lv_aload_n hx hb dX1_meetPump_101 rfl (lv_at hl 0 rfl) ?_
        refine va_get (D := D) (ci := 1) (v := .ref aDc) (C := RX1) (T := TX1) (N := 6) hx hb hts iX1 hown hK hP 0 (rwl (rwl (rwl o_Dr))) rfl 3 (by decide) (htl _ (mB4 _ (List.mem_of_getElem? (i := 14) rfl))) (fun _ h9 => h9) rfl dX1_meetPump_102 ?_
        refine lv_iload hx hb dX1_meetPump_105 (lv_at hl 7 rfl) ?_
        obtain ⟨g13, hf⟩ := gd_s hf
        refine va_iald hx hb hK hP (2 + 0) 0 (f := fDc) (rwl (rwl (rwr ln_Dr o_AI))) rfl (vpb_in g13) dX1_meetPump_107 ?_
        refine lv_iload hx hb dX1_meetPump_108 (lv_at hl 3 rfl) ?_
        refine lv_i2l (v := x6.toInt64) hx hb dX1_meetPump_110 rfl ?_
        refine lv_lload hx hb dX1_meetPump_111 (lv_at hl 2 rfl) ?_
        refine lv_lmul hx hb dX1_meetPump_113 ?_
        refine lv_lload hx hb dX1_meetPump_114 (lv_at hl 6 rfl) ?_
        obtain ⟨o14, go14, hf⟩ := bd_s hf
        refine ro_Sl (As := [.ref (hDr 2), .int x11, .int (fDc x11.toNatClampNeg), .long (x6.toInt64 * p4), .long x9]) (rest := []) ⟨hx, hb, hml, hown, hts⟩ (c_X4_spend l D K F (hDr 2) 41 (sDr.2.2.2 2) x11 (fDc x11.toNatClampNeg) (x6.toInt64 * p4) x9 o14 go14) (va_cwS 5 hts (gcS_X4_spend (mB43 _ (List.mem_of_getElem? (i := 20) rfl))) rfl rfl rfl hdS_X4_spend ⟨Nat.le_of_ble_eq_true rfl, Nat.le_of_ble_eq_true rfl⟩) hK hP hS (va_Psel hP [1] rfl) rfl hl.1 rfl (Nat.le_of_ble_eq_true rfl) dX1_meetPump_116 ⟨Nat.zero_le _, Nat.zero_le _⟩ (fun H locs hP hS => ?_)
        refine lv_lstore (lv' := [(12, .long o14), (0, .ref (hDr 99)), (1, .ref (hRo 99)), (4, .long p4), (6, .int x6), (7, .int x7), (8, .int x8), (9, .long x9), (11, .int x11)]) hx hb dX1_meetPump_119 hl (by decide) rfl (fun ls hl => ?_)
        refine lv_aload_n hx hb dX1_meetPump_121 rfl (lv_at hl 1 rfl) ?_
        refine va_get (D := D) (ci := 1) (v := .ref (hDr 2)) (C := RX1) (T := TX1) (N := 6) hx hb hts iX1 hown hK hP 0 (rwl (rwl (rwl o_Dr))) rfl 2 (by decide) (htl _ (mB4 _ (List.mem_of_getElem? (i := 13) rfl))) (fun _ h9 => h9) rfl dX1_meetPump_122 ?_
        refine lv_iload hx hb dX1_meetPump_125 (lv_at hl 8 rfl) ?_
        refine lv_aload_n hx hb dX1_meetPump_127 rfl (lv_at hl 1 rfl) ?_
        refine va_get (D := D) (ci := 1) (v := .ref aDd) (C := RX1) (T := TX1) (N := 6) hx hb hts iX1 hown hK hP 0 (rwl (rwl (rwl o_Dr))) rfl 4 (by decide) (htl _ (mB4 _ (List.mem_of_getElem? (i := 15) rfl))) (fun _ h9 => h9) rfl dX1_meetPump_128 ?_
        refine lv_iload hx hb dX1_meetPump_131 (lv_at hl 8 rfl) ?_
        obtain ⟨g15, hf⟩ := gd_s hf
        refine va_iald hx hb hK hP ((2 + 1) + 0) 0 (f := fDd) (rwl (rwr (lnA ln_Dr ln_AI) o_AI)) rfl (vpb_in g15) dX1_meetPump_133 ?_
        refine lv_iload hx hb dX1_meetPump_134 (lv_at hl 5 rfl) ?_
        refine lv_i2l (v := x7.toInt64) hx hb dX1_meetPump_136 rfl ?_
        refine lv_lload hx hb dX1_meetPump_137 (lv_at hl 3 rfl) ?_
        refine lv_lmul hx hb dX1_meetPump_139 ?_
        refine lv_lload hx hb dX1_meetPump_140 (lv_at hl 7 rfl) ?_
        obtain ⟨o16, go16, hf⟩ := bd_s hf
        refine ro_Sl (As := [.ref (hDr 2), .int x11, .int (fDd x11.toNatClampNeg), .long (x7.toInt64 * p4), .long x9]) (rest := []) ⟨hx, hb, hml, hown, hts⟩ (c_X4_spend l D K F (hDr 2) 41 (sDr.2.2.2 2) x11 (fDd x11.toNatClampNeg) (x7.toInt64 * p4) x9 o16 go16) (va_cwS 5 hts (gcS_X4_spend (mB43 _ (List.mem_of_getElem? (i := 20) rfl))) rfl rfl rfl hdS_X4_spend ⟨Nat.le_of_ble_eq_true rfl, Nat.le_of_ble_eq_true rfl⟩) hK hP hS (va_Psel hP [1] rfl) rfl hl.1 rfl (Nat.le_of_ble_eq_true rfl) dX1_meetPump_142 ⟨Nat.zero_le _, Nat.zero_le _⟩ (fun H locs hP hS => ?_)
        refine lv_lstore (lv' := [(14, .long o16), (12, .long o14), (0, .ref (hDr 99)), (1, .ref (hRo 99)), (4, .long p4), (6, .int x6), (7, .int x7), (8, .int x8), (9, .long x9), (11, .int x11)]) hx hb dX1_meetPump_145 hl (by decide) rfl (fun ls hl => ?_)
        refine lv_aload_n hx hb dX1_meetPump_147 rfl (lv_at hl 2 rfl) ?_
        refine va_get (D := D) (ci := 1) (v := .ref (hDr 2)) (C := RX1) (T := TX1) (N := 6) hx hb hts iX1 hown hK hP 0 (rwl (rwl (rwl o_Dr))) rfl 2 (by decide) (htl _ (mB4 _ (List.mem_of_getElem? (i := 13) rfl))) (fun _ h9 => h9) rfl dX1_meetPump_148 ?_
        refine lv_iload hx hb dX1_meetPump_151 (lv_at hl 9 rfl) ?_
        refine lv_iconst (v := (2 : Int32)) hx hb dX1_meetPump_153 (by decide) ?_
        refine lv_iload hx hb dX1_meetPump_154 (lv_at hl 7 rfl) ?_
        refine lv_imul hx hb dX1_meetPump_156 ?_
        refine lv_i2l (v := ((2 : Int32) * x8).toInt64) hx hb dX1_meetPump_157 rfl ?_
        refine lv_aload_n hx hb dX1_meetPump_158 rfl (lv_at hl 2 rfl) ?_
        refine va_get (D := D) (ci := 1) (v := .ref (hDr 2)) (C := RX1) (T := TX1) (N := 6) hx hb hts iX1 hown hK hP 0 (rwl (rwl (rwl o_Dr))) rfl 2 (by decide) (htl _ (mB4 _ (List.mem_of_getElem? (i := 13) rfl))) (fun _ h9 => h9) rfl dX1_meetPump_159 ?_
        refine lv_iload hx hb dX1_meetPump_162 (lv_at hl 9 rfl) ?_
        obtain ⟨g17, hf⟩ := gd_s hf
        refine va_lald hx hb hK hP 1 1 (f := sDr.2.2.2 2) (rwl (rwl (rwl a_Dr_2))) rfl (vpb_in g17) dX1_meetPump_164 ?_
        refine lv_topl (fun v18 ev18 => ?_)
        have hf := lz_s hf v18 ev18
        refine lv_lmul hx hb dX1_meetPump_165 ?_
        refine lv_bipush (v := (10 : Int32)) hx hb dX1_meetPump_166 (by decide) ?_
        refine lv_iload hx hb dX1_meetPump_168 (lv_at hl 7 rfl) ?_
        refine lv_isub hx hb dX1_meetPump_170 ?_
        refine lv_i2l (v := ((10 : Int32) - x8).toInt64) hx hb dX1_meetPump_171 rfl ?_
        refine lv_lload hx hb dX1_meetPump_172 (lv_at hl 1 rfl) ?_
        refine lv_lload hx hb dX1_meetPump_174 (lv_at hl 0 rfl) ?_
        refine lv_ladd hx hb dX1_meetPump_176 ?_
        refine lv_lmul hx hb dX1_meetPump_177 ?_
        refine lv_ladd hx hb dX1_meetPump_178 ?_
        refine lv_topl (fun v19 ev19 => ?_)
        have hf := lz_s hf v19 ev19
        obtain ⟨g20, hf⟩ := gd_s hf
        refine va_last hx hb hK hP hD hS 1 1 (f := sDr.2.2.2 2) (rwl (rwl (rwl a_Dr_2))) rfl (vpb_in g20) dX1_meetPump_179 (fun H locs hP hD hS => ?_)
        have hP := cvP (stl (stl (stl sa_Dr_2 (rlt a_Dr_2)) (rlt (rwl a_Dr_2))) (rlt (rwl (rwl a_Dr_2)))) hP
        have hD := cvD (stl (stl (stl sa_Dr_2 (rlt a_Dr_2)) (rlt (rwl a_Dr_2))) (rlt (rwl (rwl a_Dr_2)))) hD
        obtain ⟨s21, es21⟩ : ∃ z, z = sB sDr 2 x11.toNatClampNeg v19 := ⟨_, rfl⟩
        have hP : va_P D vwCl (wDr K hDr rDr1 aDc aDd s21 ++ wAI K aDc nDc fDc ++ wAI K aDd nDd fDd ++ wRo K hRo sRo) H := by rw [es21]; exact hP
        have hD : va_D A (wDr K hDr rDr1 aDc aDd s21 ++ wAI K aDc nDc fDc ++ wAI K aDd nDd fDd ++ wRo K hRo sRo) := by rw [es21]; exact hD
        have hf := lz_s hf s21 es21
        obtain ⟨v22, ev22⟩ : ∃ z : Int32, z = x11 + (1 : Int32) := ⟨_, rfl⟩
        have hf := lz_s hf v22 ev22
        refine lv_iinc (v := v22) (lv' := [(11, .int v22), (14, .long o16), (12, .long o14), (0, .ref (hDr 99)), (1, .ref (hRo 99)), (4, .long p4), (6, .int x6), (7, .int x7), (8, .int x8), (9, .long x9)]) hx hb dX1_meetPump_180 hl (k := 9) rfl (by rw [ev22]; rfl) (by decide) rfl (fun ls hl => ?_)
        refine lv_goto (tgt := 86) hx hb dX1_meetPump_183 (by decide) ?_
        exact ih x6 x7 x8 x9 v22 s21 fDc fDd H locs ls hf hP hD hS (lv_sub hl [3, 4, 5, 6, 7, 8, 9, 0] rfl)
  have w28 : ∀ (x6 : Int32), ∀ (y0 : Int32), ∀ (sDr : MS), ∀ (fDc : (Nat → Int32)), ∀ (fDd : (Nat → Int32)), ∀ (H : Heap) (locs : List Loc) (ls : Array Slot), f_X1_meetPump_28 F nDc nDd sRo p2 p3 p4 x6 y0 sDr fDc fDd = some res → va_P D vwCl (wDr K hDr rDr1 aDc aDd sDr ++ wAI K aDc nDc fDc ++ wAI K aDd nDd fDd ++ wRo K hRo sRo) H → va_D A (wDr K hDr rDr1 aDc aDd sDr ++ wAI K aDc nDc fDc ++ wAI K aDd nDd fDd ++ wRo K hRo sRo) → va_S A s.heap H locs → lv_has ls 16 [(0, .ref (hDr 99)), (1, .ref (hRo 99)), (2, .int p2), (3, .int p3), (4, .long p4), (6, .int x6)] → W p l e (headSpec wz_X1_meetPump r_X1_meetPump).room s m args below meth c H locs 0 0 Q (F0 m 28 ls [.int y0]) := by
    intro x6 y0 sDr fDc fDd H locs ls hf hP hD hS hl
    unfold f_X1_meetPump_28 at hf
    refine lv_istore (lv' := [(7, .int y0), (0, .ref (hDr 99)), (1, .ref (hRo 99)), (2, .int p2), (3, .int p3), (4, .long p4), (6, .int x6)]) hx hb dX1_meetPump_28 hl (by decide) rfl (fun ls hl => ?_)
    refine lv_aload_n hx hb dX1_meetPump_30 rfl (lv_at hl 1 rfl) ?_
    refine lv_aload_n hx hb dX1_meetPump_31 rfl (lv_at hl 2 rfl) ?_
    refine lv_iload_n hx hb dX1_meetPump_32 rfl (lv_at hl 3 rfl) ?_
    refine lv_iload_n hx hb dX1_meetPump_33 rfl (lv_at hl 4 rfl) ?_
    refine lv_iload hx hb dX1_meetPump_34 (lv_at hl 6 rfl) ?_
    refine lv_lload hx hb dX1_meetPump_36 (lv_at hl 5 rfl) ?_
    refine lv_aload_n hx hb dX1_meetPump_38 rfl (lv_at hl 1 rfl) ?_
    refine va_get (D := D) (ci := 1) (v := .ref aDc) (C := RX1) (T := TX1) (N := 6) hx hb hts iX1 hown hK hP 0 (rwl (rwl (rwl o_Dr))) rfl 3 (by decide) (htl _ (mB4 _ (List.mem_of_getElem? (i := 14) rfl))) (fun _ h9 => h9) rfl dX1_meetPump_39 ?_
    obtain ⟨o5, go5, hf⟩ := bd_s hf
    refine rk_Vv (wn := wDr K hDr rDr1 aDc aDd sDr ++ wAI K aDc nDc o5 ++ wAI K aDd nDd fDd ++ wRo K hRo sRo) [wDr K hDr rDr1 aDc aDd sDr, wAI K aDc nDc fDc, wAI K aDd nDd fDd, wRo K hRo sRo] [wDr K hDr rDr1 aDc aDd sDr, wRo K hRo sRo, wAI K aDc nDc fDc] [wDr K hDr rDr1 aDc aDd sDr, wRo K hRo sRo, wAI K aDc nDc o5] [wDr K hDr rDr1 aDc aDd sDr, wAI K aDc nDc o5, wAI K aDd nDd fDd, wRo K hRo sRo] (As := [.ref (hRo 99), .int p2, .int p3, .int x6, .long p4, .ref aDc]) (rest := []) ⟨hx, hb, hml, hown, hts⟩ (c_X1_chooseAll l D K F hDr rDr1 aDc aDd hRo aDc nDc H.size sDr sRo fDc p2 p3 x6 p4 o5 go5) (cwV 6 hts (gcV_X1_chooseAll (mB43 _ (List.mem_of_getElem? (i := 15) rfl))) rfl rfl rfl hdV_X1_chooseAll ⟨Nat.le_of_ble_eq_true rfl, Nat.le_of_ble_eq_true rfl⟩) hK hP hD hS hA [0, 3, 1] (fl4 _ _ _ _) rfl (by decide) (fl3 _ _ _) (fl3 _ _ _) rfl rfl (fl4 _ _ _ _) (va_recv hK hP (ci := 1) (q0 := 0) rfl (rwl (rwl (rwl o_Dr)))) rfl hl.1 rfl (Nat.le_of_ble_eq_true rfl) dX1_meetPump_42 ⟨Nat.zero_le _, Nat.zero_le _⟩ (fun H locs hP hD hS => ?_)
    have hP : va_P D vwCl (wDr K hDr rDr1 aDc aDd sDr ++ wAI K aDc nDc o5 ++ wAI K aDd nDd fDd ++ wRo K hRo sRo) H := hP
    have hD : va_D A (wDr K hDr rDr1 aDc aDd sDr ++ wAI K aDc nDc o5 ++ wAI K aDd nDd fDd ++ wRo K hRo sRo) := hD
    refine lv_aload_n hx hb dX1_meetPump_45 rfl (lv_at hl 1 rfl) ?_
    refine lv_aload_n hx hb dX1_meetPump_46 rfl (lv_at hl 2 rfl) ?_
    refine lv_iload_n hx hb dX1_meetPump_47 rfl (lv_at hl 3 rfl) ?_
    refine lv_iload_n hx hb dX1_meetPump_48 rfl (lv_at hl 4 rfl) ?_
    refine lv_iload hx hb dX1_meetPump_49 (lv_at hl 0 rfl) ?_
    refine lv_lload hx hb dX1_meetPump_51 (lv_at hl 5 rfl) ?_
    refine lv_aload_n hx hb dX1_meetPump_53 rfl (lv_at hl 1 rfl) ?_
    refine va_get (D := D) (ci := 1) (v := .ref aDd) (C := RX1) (T := TX1) (N := 6) hx hb hts iX1 hown hK hP 0 (rwl (rwl (rwl o_Dr))) rfl 4 (by decide) (htl _ (mB4 _ (List.mem_of_getElem? (i := 15) rfl))) (fun _ h9 => h9) rfl dX1_meetPump_54 ?_
    obtain ⟨o6, go6, hf⟩ := bd_s hf
    refine rk_Vv (wn := wDr K hDr rDr1 aDc aDd sDr ++ wAI K aDc nDc o5 ++ wAI K aDd nDd o6 ++ wRo K hRo sRo) [wDr K hDr rDr1 aDc aDd sDr, wAI K aDc nDc o5, wAI K aDd nDd fDd, wRo K hRo sRo] [wDr K hDr rDr1 aDc aDd sDr, wRo K hRo sRo, wAI K aDd nDd fDd] [wDr K hDr rDr1 aDc aDd sDr, wRo K hRo sRo, wAI K aDd nDd o6] [wDr K hDr rDr1 aDc aDd sDr, wAI K aDc nDc o5, wAI K aDd nDd o6, wRo K hRo sRo] (As := [.ref (hRo 99), .int p2, .int p3, .int y0, .long p4, .ref aDd]) (rest := []) ⟨hx, hb, hml, hown, hts⟩ (c_X1_chooseAll l D K F hDr rDr1 aDc aDd hRo aDd nDd H.size sDr sRo fDd p2 p3 y0 p4 o6 go6) (cwV 6 hts (gcV_X1_chooseAll (mB43 _ (List.mem_of_getElem? (i := 15) rfl))) rfl rfl rfl hdV_X1_chooseAll ⟨Nat.le_of_ble_eq_true rfl, Nat.le_of_ble_eq_true rfl⟩) hK hP hD hS hA [0, 3, 2] (fl4 _ _ _ _) rfl (by decide) (fl3 _ _ _) (fl3 _ _ _) rfl rfl (fl4 _ _ _ _) (va_recv hK hP (ci := 1) (q0 := 0) rfl (rwl (rwl (rwl o_Dr)))) rfl hl.1 rfl (Nat.le_of_ble_eq_true rfl) dX1_meetPump_57 ⟨Nat.zero_le _, Nat.zero_le _⟩ (fun H locs hP hD hS => ?_)
    have hP : va_P D vwCl (wDr K hDr rDr1 aDc aDd sDr ++ wAI K aDc nDc o5 ++ wAI K aDd nDd o6 ++ wRo K hRo sRo) H := hP
    have hD : va_D A (wDr K hDr rDr1 aDc aDd sDr ++ wAI K aDc nDc o5 ++ wAI K aDd nDd o6 ++ wRo K hRo sRo) := hD
    refine lv_aload_n hx hb dX1_meetPump_60 rfl (lv_at hl 2 rfl) ?_
    refine va_get (D := D) (ci := 8) (v := .ref (hRo 14)) (C := RX9) (T := TX9) (N := 19) hx hb hts iX9 hown hK hP (((2 + 1) + 1) + 0) (rwr (lnA (lnA ln_Dr ln_AI) ln_AI) o_Ro) rfl 14 (by decide) (htl _ (mB43 _ (List.mem_of_getElem? (i := 14) rfl))) (fun _ h9 => h9) rfl dX1_meetPump_61 ?_
    refine lv_aload_n hx hb dX1_meetPump_64 rfl (lv_at hl 2 rfl) ?_
    refine va_get (D := D) (ci := 8) (v := .ref (hRo 15)) (C := RX9) (T := TX9) (N := 19) hx hb hts iX9 hown hK hP (((2 + 1) + 1) + 0) (rwr (lnA (lnA ln_Dr ln_AI) ln_AI) o_Ro) rfl 15 (by decide) (htl _ (mB41 _ (List.mem_of_getElem? (i := 14) rfl))) (fun _ h9 => h9) rfl dX1_meetPump_65 ?_
    refine lv_iload_n hx hb dX1_meetPump_68 rfl (lv_at hl 4 rfl) ?_
    obtain ⟨g7, hf⟩ := gd_s hf
    refine va_iald hx hb hK hP (((2 + 1) + 1) + 6) 0 (f := sRo.2.2.1 15) (rwr (lnA (lnA ln_Dr ln_AI) ln_AI) a_Ro_15) rfl (vpb_in g7) dX1_meetPump_69 ?_
    refine lv_topi (fun v8 ev8 => ?_)
    have hf := lz_s hf v8 ev8
    obtain ⟨g9, hf⟩ := gd_s hf
    refine va_iald hx hb hK hP (((2 + 1) + 1) + 5) 0 (f := sRo.2.2.1 14) (rwr (lnA (lnA ln_Dr ln_AI) ln_AI) a_Ro_14) rfl (vpb_in g9) dX1_meetPump_70 ?_
    refine lv_topi (fun v10 ev10 => ?_)
    have hf := lz_s hf v10 ev10
    refine lv_istore (lv' := [(8, .int v10), (7, .int y0), (0, .ref (hDr 99)), (1, .ref (hRo 99)), (2, .int p2), (3, .int p3), (4, .long p4), (6, .int x6)]) hx hb dX1_meetPump_71 hl (by decide) rfl (fun ls hl => ?_)
    refine lv_aload_n hx hb dX1_meetPump_73 rfl (lv_at hl 3 rfl) ?_
    refine va_get (D := D) (ci := 8) (v := .int (sRo.1 2)) (C := RX9) (T := TX9) (N := 19) hx hb hts iX9 hown hK hP (((2 + 1) + 1) + 0) (rwr (lnA (lnA ln_Dr ln_AI) ln_AI) o_Ro) rfl 2 (by decide) (htl _ (mB41 _ (List.mem_of_getElem? (i := 15) rfl))) (fun _ h9 => h9) rfl dX1_meetPump_74 ?_
    refine lv_i2l (v := (sRo.1 2).toInt64) hx hb dX1_meetPump_77 rfl ?_
    refine lv_lload hx hb dX1_meetPump_78 (lv_at hl 6 rfl) ?_
    refine lv_lmul hx hb dX1_meetPump_80 ?_
    refine lv_topl (fun v11 ev11 => ?_)
    have hf := lz_s hf v11 ev11
    refine lv_lstore (lv' := [(9, .long v11), (8, .int v10), (7, .int y0), (0, .ref (hDr 99)), (1, .ref (hRo 99)), (2, .int p2), (3, .int p3), (4, .long p4), (6, .int x6)]) hx hb dX1_meetPump_81 hl (by decide) rfl (fun ls hl => ?_)
    refine lv_iconst (v := (0 : Int32)) hx hb dX1_meetPump_83 (by decide) ?_
    refine lv_istore (lv' := [(11, .int (0 : Int32)), (9, .long v11), (8, .int v10), (7, .int y0), (0, .ref (hDr 99)), (1, .ref (hRo 99)), (2, .int p2), (3, .int p3), (4, .long p4), (6, .int x6)]) hx hb dX1_meetPump_84 hl (by decide) rfl (fun ls hl => ?_)
    exact w86 F x6 y0 v10 v11 (0 : Int32) sDr o5 o6 H locs ls hf hP hD hS (lv_sub hl [4, 5, 8, 9, 3, 2, 1, 0] rfl)
  have hen : entryFrame m args 16 = entryFrame m (([.ref (hDr 99), .ref (hRo 99), .int p2, .int p3, .long p4] : List Value).toArray) 16 := by rw [hargs]
  have hl := lv_entry ([.ref (hDr 99), .ref (hRo 99), .int p2, .int p3, .long p4]) (n := 16) (Nat.le_of_ble_eq_true rfl)
  rw [hen, lg_entry_eq]
  generalize (lg_sl ([.ref (hDr 99), .ref (hRo 99), .int p2, .int p3, .long p4]) ++ List.replicate (16 - (lg_sl ([.ref (hDr 99), .ref (hRo 99), .int p2, .int p3, .long p4])).length) Slot.unset).toArray = ls at hl ⊢
  have hl : lv_has ls 16 [(0, .ref (hDr 99)), (1, .ref (hRo 99)), (2, .int p2), (3, .int p3), (4, .long p4)] := hl
  unfold f_X1_meetPump at hf
  obtain ⟨H, hHe⟩ : ∃ z, z = s.heap := ⟨_, rfl⟩
  obtain ⟨locs, hLe⟩ : ∃ z : List Loc, z = [] := ⟨_, rfl⟩
  rw [← hLe]
  have hS : va_S A s.heap H locs := by rw [hHe, hLe]; exact hS
  have hP : va_P D vwCl (wDr K hDr rDr1 aDc aDd sDr ++ wAI K aDc nDc fDc ++ wAI K aDd nDd fDd ++ wRo K hRo sRo) H := by rw [hHe]; exact hP
  have hgo : W p l e (headSpec wz_X1_meetPump r_X1_meetPump).room s m args below meth c H locs 0 0 Q (F0 m 0 ls []) := by
    refine lv_aload_n hx hb dX1_meetPump_0 rfl (lv_at hl 1 rfl) ?_
    refine lv_iload_n hx hb dX1_meetPump_1 rfl (lv_at hl 3 rfl) ?_
    refine lv_iconst (v := (0 : Int32)) hx hb dX1_meetPump_2 (by decide) ?_
    obtain ⟨o1, go1, hf⟩ := bd_s hf
    refine ro_Vi (As := [.int p3, .int (0 : Int32)]) (rest := []) ⟨hx, hb, hml, hown, hts⟩ (c_X9_priceAt l D K F hRo sRo p3 (0 : Int32) o1 go1) (cwV 2 hts (gcV_X9_priceAt (mB39 _ (List.mem_of_getElem? (i := 19) rfl))) rfl rfl rfl hdV_X9_priceAt ⟨Nat.le_of_ble_eq_true rfl, Nat.le_of_ble_eq_true rfl⟩) hK hP hS (va_PL (cs := [wDr K hDr rDr1 aDc aDd sDr, wAI K aDc nDc fDc, wAI K aDd nDd fDd, wRo K hRo sRo]) (cc := [wRo K hRo sRo]) hP (fl4 _ _ _ _) [3] rfl (fl1 _)) (va_recv hK hP (ci := 8) (q0 := (((2 + 1) + 1) + 0)) rfl (rwr (lnA (lnA ln_Dr ln_AI) ln_AI) o_Ro)) rfl hl.1 rfl (Nat.le_of_ble_eq_true rfl) dX1_meetPump_3 ⟨Nat.zero_le _, Nat.zero_le _⟩ (fun H locs hP hS => ?_)
    refine lv_istore (lv' := [(6, .int o1), (0, .ref (hDr 99)), (1, .ref (hRo 99)), (2, .int p2), (3, .int p3), (4, .long p4)]) hx hb dX1_meetPump_6 hl (by decide) rfl (fun ls hl => ?_)
    refine lv_aload_n hx hb dX1_meetPump_8 rfl (lv_at hl 2 rfl) ?_
    refine lv_iload_n hx hb dX1_meetPump_9 rfl (lv_at hl 4 rfl) ?_
    refine lv_iconst (v := (1 : Int32)) hx hb dX1_meetPump_10 (by decide) ?_
    obtain ⟨o2, go2, hf⟩ := bd_s hf
    refine ro_Vi (As := [.int p3, .int (1 : Int32)]) (rest := []) ⟨hx, hb, hml, hown, hts⟩ (c_X9_priceAt l D K F hRo sRo p3 (1 : Int32) o2 go2) (cwV 2 hts (gcV_X9_priceAt (mB39 _ (List.mem_of_getElem? (i := 19) rfl))) rfl rfl rfl hdV_X9_priceAt ⟨Nat.le_of_ble_eq_true rfl, Nat.le_of_ble_eq_true rfl⟩) hK hP hS (va_PL (cs := [wDr K hDr rDr1 aDc aDd sDr, wAI K aDc nDc fDc, wAI K aDd nDd fDd, wRo K hRo sRo]) (cc := [wRo K hRo sRo]) hP (fl4 _ _ _ _) [3] rfl (fl1 _)) (va_recv hK hP (ci := 8) (q0 := (((2 + 1) + 1) + 0)) rfl (rwr (lnA (lnA ln_Dr ln_AI) ln_AI) o_Ro)) rfl hl.1 rfl (Nat.le_of_ble_eq_true rfl) dX1_meetPump_11 ⟨Nat.zero_le _, Nat.zero_le _⟩ (fun H locs hP hS => ?_)
    refine lv_if_le (tgt := 26) hx hb dX1_meetPump_14 (by decide) (fun c3 => ?_) (fun c3 => ?_)
    · have hf := it_t hf c3
      refine lv_iload hx hb dX1_meetPump_26 (lv_at hl 0 rfl) ?_
      exact w28 o1 o1 sDr fDc fDd H locs ls hf hP hD hS (lv_sub hl [1, 2, 3, 4, 5, 0] rfl)
    · have hf := it_f hf c3
      refine lv_aload_n hx hb dX1_meetPump_17 rfl (lv_at hl 2 rfl) ?_
      refine lv_iload_n hx hb dX1_meetPump_18 rfl (lv_at hl 4 rfl) ?_
      refine lv_iconst (v := (1 : Int32)) hx hb dX1_meetPump_19 (by decide) ?_
      obtain ⟨o4, go4, hf⟩ := bd_s hf
      refine ro_Vi (As := [.int p3, .int (1 : Int32)]) (rest := []) ⟨hx, hb, hml, hown, hts⟩ (c_X9_priceAt l D K F hRo sRo p3 (1 : Int32) o4 go4) (cwV 2 hts (gcV_X9_priceAt (mB39 _ (List.mem_of_getElem? (i := 19) rfl))) rfl rfl rfl hdV_X9_priceAt ⟨Nat.le_of_ble_eq_true rfl, Nat.le_of_ble_eq_true rfl⟩) hK hP hS (va_PL (cs := [wDr K hDr rDr1 aDc aDd sDr, wAI K aDc nDc fDc, wAI K aDd nDd fDd, wRo K hRo sRo]) (cc := [wRo K hRo sRo]) hP (fl4 _ _ _ _) [3] rfl (fl1 _)) (va_recv hK hP (ci := 8) (q0 := (((2 + 1) + 1) + 0)) rfl (rwr (lnA (lnA ln_Dr ln_AI) ln_AI) o_Ro)) rfl hl.1 rfl (Nat.le_of_ble_eq_true rfl) dX1_meetPump_20 ⟨Nat.zero_le _, Nat.zero_le _⟩ (fun H locs hP hS => ?_)
      refine lv_goto (tgt := 28) hx hb dX1_meetPump_23 (by decide) ?_
      exact w28 o1 o4 sDr fDc fDd H locs ls hf hP hD hS (lv_sub hl [1, 2, 3, 4, 5, 0] rfl)
  rw [hHe] at hgo
  exact hgo

theorem gcS_J7_fill_d0a16 {T0 : Cond} {own : String} {i : Nat} (h : Cond.methodLink own i yJ7_fill_d0a16 ∈ wsL_law) : GoodIn (T0 :: wsL_law) (va_wsS own i yJ7_fill_d0a16 wz_J7_fill_d0a16) := gS h (mB32 _ (List.mem_of_getElem? (i := 11) rfl)) (mB9 _ (List.mem_of_getElem? (i := 0) rfl)) (mB32 _ (List.mem_of_getElem? (i := 12) rfl))
theorem hdS_J7_fill_d0a16 : yJ7_fill_d0a16.cls ≠ "java/lang/invoke/MethodHandle" ∧ yJ7_fill_d0a16.cls ≠ "java/lang/invoke/VarHandle" ∧ (parseMethodDescriptor yJ7_fill_d0a16.desc).map (fun d => d.parameters.length) = some 2 := by decide +kernel
theorem gcV_X1_leaveStation {T0 : Cond} {own : String} {i : Nat} (h : Cond.methodLink own i yX1_leaveStation ∈ wsL_law) : GoodIn (T0 :: wsL_law) (wsV own i RX1 yX1_leaveStation wz_X1_leaveStation) := gV h (mB43 _ (List.mem_of_getElem? (i := 5) rfl)) (mB43 _ (List.mem_of_getElem? (i := 6) rfl)) (mB2 _ (List.mem_of_getElem? (i := 6) rfl)) (mB43 _ (List.mem_of_getElem? (i := 7) rfl))
theorem hdV_X1_leaveStation : yX1_leaveStation.cls = RX1 ∧ yX1_leaveStation.cls ≠ "java/lang/invoke/MethodHandle" ∧ yX1_leaveStation.cls ≠ "java/lang/invoke/VarHandle" ∧ (parseMethodDescriptor yX1_leaveStation.desc).map (fun d => d.parameters.length) = some 3 := by decide +kernel
theorem gcV_X1_meetPump {T0 : Cond} {own : String} {i : Nat} (h : Cond.methodLink own i yX1_meetPump ∈ wsL_law) : GoodIn (T0 :: wsL_law) (wsV own i RX1 yX1_meetPump wz_X1_meetPump) := gV h (mB43 _ (List.mem_of_getElem? (i := 11) rfl)) (mB43 _ (List.mem_of_getElem? (i := 12) rfl)) (mB2 _ (List.mem_of_getElem? (i := 6) rfl)) (mB43 _ (List.mem_of_getElem? (i := 13) rfl))
theorem hdV_X1_meetPump : yX1_meetPump.cls = RX1 ∧ yX1_meetPump.cls ≠ "java/lang/invoke/MethodHandle" ∧ yX1_meetPump.cls ≠ "java/lang/invoke/VarHandle" ∧ (parseMethodDescriptor yX1_meetPump.desc).map (fun d => d.parameters.length) = some 4 := by decide +kernel
def wz_X1_lookDownTo : List Cond := .code yX1_lookDownTo cX1_lookDownTo 6 none :: wsL_law
abbrev r_X1_lookDownTo : Room := { frames := 5, cells := 0, slots := 0, locals := 133 }
set_option maxHeartbeats 4000000 in
set_option maxRecDepth 100000 in
theorem c_X1_lookDownTo (l : Launch) (D : va_G) (K : Nat → ClassId) (F : Nat) (hDr : Nat → Nat) (rDr1 : Nat) (aDc nDc : Nat) (aDd nDd : Nat) (hRo : Nat → Nat) (sz : Nat) (sDr : MS) (fDc : (Nat → Int32)) (fDd : (Nat → Int32)) (sRo : MS) (p2 : Int32) (p3 : Int32) (p4 : Int32) (res : MS × (Nat → Int32) × (Nat → Int32)) (hf : f_X1_lookDownTo F nDc nDd sRo p2 p3 p4 sDr fDc fDd = some res) : Met l yX1_lookDownTo wz_X1_lookDownTo r_X1_lookDownTo (va_Pc [.ref (hDr 99), .ref (hRo 99), .int p2, .int p3, .int p4] (PW D K (wDr K hDr rDr1 aDc aDd sDr ++ wAI K aDc nDc fDc ++ wAI K aDd nDd fDd ++ wRo K hRo sRo) sz)) (va_Qv (fun u => u = res) (fun u t => BW D K (va_A (wDr K hDr rDr1 aDc aDd sDr ++ wAI K aDc nDc fDc ++ wAI K aDd nDd fDd ++ wRo K hRo sRo) sz) (wDr K hDr rDr1 aDc aDd u.1 ++ wAI K aDc nDc u.2.1 ++ wAI K aDd nDd u.2.2 ++ wRo K hRo sRo) t) (va_A (wDr K hDr rDr1 aDc aDd sDr ++ wAI K aDc nDc fDc ++ wAI K aDd nDd fDd ++ wRo K hRo sRo) sz)) 0 0 (va_A (wDr K hDr rDr1 aDc aDd sDr ++ wAI K aDc nDc fDc ++ wAI K aDd nDd fDd ++ wRo K hRo sRo) sz) := by
  refine Met.ofW (cc := cX1_lookDownTo) (maxL := 6) (ret := none) (by decide) rfl ?_
  intro p e s m args below meth c s₁ B hml hv
  obtain ⟨hargs, hsz, hP, hK, hD0⟩ := hv
  have hx := B.exec
  have hb := B.bytes
  have hr := B.returns
  have hts := atoms_spec (ws := wz_X1_lookDownTo) B.pre
  have htl : ∀ w ∈ wsL_law, w.before args s = true := fun w h => hts w (List.mem_cons_of_mem _ h)
  have hown : s.vm.findClass RX1 = some m.cls := findClass_of_methodNamed B.named
  have hlocks := B.notSynchronized
  subst hsz
  have hD := hD0.self (sz := s.heap.size)
  generalize hAe : va_A (wDr K hDr rDr1 aDc aDd sDr ++ wAI K aDc nDc fDc ++ wAI K aDd nDd fDd ++ wRo K hRo sRo) s.heap.size = A at hD ⊢
  have hA : ∀ q : Nat, s.heap.size ≤ q → A q := fun q h => by rw [← hAe]; exact Or.inr h
  have hS : va_S A s.heap s.heap [] := va_S.rf
  have iX1 : ∀ w ∈ wsX10, w ∈ wz_X1_lookDownTo := fun w h => List.mem_cons_of_mem _ (inlX1 w h)
  have iX9 : ∀ w ∈ wsX90, w ∈ wz_X1_lookDownTo := fun w h => List.mem_cons_of_mem _ (inlX9 w h)
  suffices hgo : ∀ Q : State → Prop, Q = MQ below (va_Qv (fun u => u = res) (fun u t => BW D K A (wDr K hDr rDr1 aDc aDd u.1 ++ wAI K aDc nDc u.2.1 ++ wAI K aDd nDd u.2.2 ++ wRo K hRo sRo) t) A) args s 0 0 A → W p l e (headSpec wz_X1_lookDownTo r_X1_lookDownTo).room s m args below meth c s.heap [] 0 0 Q (entryFrame m args 6) from hgo _ rfl
  intro Q hQ
  have w85 : ∀ (k29 : Int32 → MS → (Nat → Int32) → (Nat → Int32) → Option (MS × (Nat → Int32) × (Nat → Int32))), (∀ (x5 : Int32), ∀ (sDr : MS), ∀ (fDc : (Nat → Int32)), ∀ (fDd : (Nat → Int32)), ∀ (H : Heap) (locs : List Loc) (ls : Array Slot), k29 x5 sDr fDc fDd = some res → va_P D vwCl (wDr K hDr rDr1 aDc aDd sDr ++ wAI K aDc nDc fDc ++ wAI K aDd nDd fDd ++ wRo K hRo sRo) H → va_D A (wDr K hDr rDr1 aDc aDd sDr ++ wAI K aDc nDc fDc ++ wAI K aDd nDd fDd ++ wRo K hRo sRo) → va_S A s.heap H locs → lv_has ls 6 [(0, .ref (hDr 99)), (1, .ref (hRo 99)), (2, .int p2), (3, .int p3), (4, .int p4), (5, .int x5)] → W p l e (headSpec wz_X1_lookDownTo r_X1_lookDownTo).room s m args below meth c H locs 0 0 Q (F0 m 29 ls [])) → ∀ (x5 : Int32), ∀ (sDr : MS), ∀ (fDc : (Nat → Int32)), ∀ (fDd : (Nat → Int32)), ∀ (H : Heap) (locs : List Loc) (ls : Array Slot), f_X1_lookDownTo_85 F nDc nDd sRo p2 p3 p4 k29 x5 sDr fDc fDd = some res → va_P D vwCl (wDr K hDr rDr1 aDc aDd sDr ++ wAI K aDc nDc fDc ++ wAI K aDd nDd fDd ++ wRo K hRo sRo) H → va_D A (wDr K hDr rDr1 aDc aDd sDr ++ wAI K aDc nDc fDc ++ wAI K aDd nDd fDd ++ wRo K hRo sRo) → va_S A s.heap H locs → lv_has ls 6 [(0, .ref (hDr 99)), (1, .ref (hRo 99)), (2, .int p2), (3, .int p3), (4, .int p4), (5, .int x5)] → W p l e (headSpec wz_X1_lookDownTo r_X1_lookDownTo).room s m args below meth c H locs 0 0 Q (F0 m 85 ls []) := by
    intro k29 hk29 x5 sDr fDc fDd H locs ls hf hP hD hS hl
    unfold f_X1_lookDownTo_85 at hf
    obtain ⟨v14, ev14⟩ : ∃ z : Int32, z = x5 + (-1 : Int32) := ⟨_, rfl⟩
    have hf := lz_s hf v14 ev14
    refine lv_iinc (v := v14) (lv' := [(5, .int v14), (0, .ref (hDr 99)), (1, .ref (hRo 99)), (2, .int p2), (3, .int p3), (4, .int p4)]) hx hb dX1_lookDownTo_85 hl (k := 5) rfl (by rw [ev14]; rfl) (by decide) rfl (fun ls hl => ?_)
    refine lv_goto (tgt := 29) hx hb dX1_lookDownTo_88 (by decide) ?_
    exact hk29 v14 sDr fDc fDd H locs ls hf hP hD hS (lv_sub hl [1, 2, 3, 4, 5, 0] rfl)
  have w70 : ∀ (k29 : Int32 → MS → (Nat → Int32) → (Nat → Int32) → Option (MS × (Nat → Int32) × (Nat → Int32))), (∀ (x5 : Int32), ∀ (sDr : MS), ∀ (fDc : (Nat → Int32)), ∀ (fDd : (Nat → Int32)), ∀ (H : Heap) (locs : List Loc) (ls : Array Slot), k29 x5 sDr fDc fDd = some res → va_P D vwCl (wDr K hDr rDr1 aDc aDd sDr ++ wAI K aDc nDc fDc ++ wAI K aDd nDd fDd ++ wRo K hRo sRo) H → va_D A (wDr K hDr rDr1 aDc aDd sDr ++ wAI K aDc nDc fDc ++ wAI K aDd nDd fDd ++ wRo K hRo sRo) → va_S A s.heap H locs → lv_has ls 6 [(0, .ref (hDr 99)), (1, .ref (hRo 99)), (2, .int p2), (3, .int p3), (4, .int p4), (5, .int x5)] → W p l e (headSpec wz_X1_lookDownTo r_X1_lookDownTo).room s m args below meth c H locs 0 0 Q (F0 m 29 ls [])) → ∀ (x5 : Int32), ∀ (y2 : Int32), ∀ (y3 : Int32), ∀ (y4 : Int64), ∀ (sDr : MS), ∀ (fDc : (Nat → Int32)), ∀ (fDd : (Nat → Int32)), ∀ (H : Heap) (locs : List Loc) (ls : Array Slot), f_X1_lookDownTo_70 F nDc nDd sRo p2 p3 p4 k29 x5 y2 y3 y4 sDr fDc fDd = some res → va_P D vwCl (wDr K hDr rDr1 aDc aDd sDr ++ wAI K aDc nDc fDc ++ wAI K aDd nDd fDd ++ wRo K hRo sRo) H → va_D A (wDr K hDr rDr1 aDc aDd sDr ++ wAI K aDc nDc fDc ++ wAI K aDd nDd fDd ++ wRo K hRo sRo) → va_S A s.heap H locs → lv_has ls 6 [(0, .ref (hDr 99)), (1, .ref (hRo 99)), (2, .int p2), (3, .int p3), (4, .int p4), (5, .int x5)] → W p l e (headSpec wz_X1_lookDownTo r_X1_lookDownTo).room s m args below meth c H locs 0 0 Q (F0 m 70 ls [.long y4, .int y3, .int y2, .ref (hRo 99), .ref (hDr 99)]) := by
    intro k29 hk29 x5 y2 y3 y4 sDr fDc fDd H locs ls hf hP hD hS hl
    unfold f_X1_lookDownTo_70 at hf
    obtain ⟨o11, go11, hf⟩ := bd_s hf
    refine rs_Vv (As := [.ref (hRo 99), .int y2, .int y3, .long y4]) (rest := []) ⟨hx, hb, hml, hown, hts⟩ (c_X1_meetPump l D K F hDr rDr1 aDc nDc aDd nDd hRo H.size sDr fDc fDd sRo y2 y3 y4 o11 go11) (cwV 4 hts (gcV_X1_meetPump (mB43 _ (List.mem_of_getElem? (i := 10) rfl))) rfl rfl rfl hdV_X1_meetPump ⟨Nat.le_of_ble_eq_true rfl, Nat.le_of_ble_eq_true rfl⟩) hK hP hD hS hA (va_recv hK hP (ci := 1) (q0 := 0) rfl (rwl (rwl (rwl o_Dr)))) rfl hl.1 rfl (Nat.le_of_ble_eq_true rfl) dX1_lookDownTo_70 ⟨Nat.zero_le _, Nat.zero_le _⟩ (fun H locs hP hD hS => ?_)
    have hP : va_P D vwCl (wDr K hDr rDr1 aDc aDd o11.1 ++ wAI K aDc nDc o11.2.1 ++ wAI K aDd nDd o11.2.2 ++ wRo K hRo sRo) H := hP
    have hD : va_D A (wDr K hDr rDr1 aDc aDd o11.1 ++ wAI K aDc nDc o11.2.1 ++ wAI K aDd nDd o11.2.2 ++ wRo K hRo sRo) := hD
    refine lv_aload_n hx hb dX1_lookDownTo_73 rfl (lv_at hl 0 rfl) ?_
    refine lv_dup hx hb dX1_lookDownTo_74 rfl ?_
    refine va_get (D := D) (ci := 1) (v := .long (o11.1.2.1 5)) (C := RX1) (T := TX1) (N := 6) hx hb hts iX1 hown hK hP 0 (rwl (rwl (rwl o_Dr))) rfl 5 (by decide) (htl _ (mB42 _ (List.mem_of_getElem? (i := 21) rfl))) (fun _ h9 => h9) rfl dX1_lookDownTo_75 ?_
    refine lv_ldc2 (v := (20 : Int64)) hx hb hown (htl _ (mB43 _ (List.mem_of_getElem? (i := 2) rfl))) dX1_lookDownTo_78 ?_
    refine lv_lmul hx hb dX1_lookDownTo_81 ?_
    refine lv_topl (fun v12 ev12 => ?_)
    have hf := lz_s hf v12 ev12
    refine va_put (D := D) (ci := 1) (v := .long v12) (ty := .long) (C := RX1) (T := TX1) (N := 6) hx hb hts iX1 tyX1 tyX1_ok nmX1 hown hK hP hD hS 0 (rwl (rwl (rwl o_Dr))) rfl 5 (by decide) (htl _ (mB42 _ (List.mem_of_getElem? (i := 21) rfl))) (fun _ h9 => h9) rfl (by decide +kernel) rfl rfl (Nat.le_of_ble_eq_true rfl) dX1_lookDownTo_82 (fun H locs hP hD hS => ?_)
    have hP := cvP (stl (stl (stl si_Dr_5 (rlt o_Dr)) (rlt (rwl o_Dr))) (rlt (rwl (rwl o_Dr)))) hP
    have hD := cvD (stl (stl (stl si_Dr_5 (rlt o_Dr)) (rlt (rwl o_Dr))) (rlt (rwl (rwl o_Dr)))) hD
    obtain ⟨s13, es13⟩ : ∃ z, z = sL o11.1 5 v12 := ⟨_, rfl⟩
    have hP : va_P D vwCl (wDr K hDr rDr1 aDc aDd s13 ++ wAI K aDc nDc o11.2.1 ++ wAI K aDd nDd o11.2.2 ++ wRo K hRo sRo) H := by rw [es13]; exact hP
    have hD : va_D A (wDr K hDr rDr1 aDc aDd s13 ++ wAI K aDc nDc o11.2.1 ++ wAI K aDd nDd o11.2.2 ++ wRo K hRo sRo) := by rw [es13]; exact hD
    have hf := lz_s hf s13 es13
    exact w85 k29 hk29 x5 s13 o11.2.1 o11.2.2 H locs ls hf hP hD hS (lv_sub hl [0, 1, 2, 3, 4, 5] rfl)
  have w29 : ∀ (n : Nat), ∀ (x5 : Int32), ∀ (sDr : MS), ∀ (fDc : (Nat → Int32)), ∀ (fDd : (Nat → Int32)), ∀ (H : Heap) (locs : List Loc) (ls : Array Slot), f_X1_lookDownTo_29 F nDc nDd sRo p2 p3 p4 n x5 sDr fDc fDd = some res → va_P D vwCl (wDr K hDr rDr1 aDc aDd sDr ++ wAI K aDc nDc fDc ++ wAI K aDd nDd fDd ++ wRo K hRo sRo) H → va_D A (wDr K hDr rDr1 aDc aDd sDr ++ wAI K aDc nDc fDc ++ wAI K aDd nDd fDd ++ wRo K hRo sRo) → va_S A s.heap H locs → lv_has ls 6 [(0, .ref (hDr 99)), (1, .ref (hRo 99)), (2, .int p2), (3, .int p3), (4, .int p4), (5, .int x5)] → W p l e (headSpec wz_X1_lookDownTo r_X1_lookDownTo).room s m args below meth c H locs 0 0 Q (F0 m 29 ls []) := by
    intro n
    induction n with
    | zero =>
      intro x5 sDr fDc fDd H locs ls hf
      exact absurd (show none = some res from hf) (fun h => nomatch h)
    | succ n ih =>
      intro x5 sDr fDc fDd H locs ls hf hP hD hS hl
      rw [f_X1_lookDownTo_29] at hf
      refine lv_iload hx hb dX1_lookDownTo_29 (lv_at hl 5 rfl) ?_
      refine lv_iload hx hb dX1_lookDownTo_31 (lv_at hl 4 rfl) ?_
      refine lv_icmp_lt (tgt := 91) hx hb dX1_lookDownTo_33 (by decide) (fun c6 => ?_) (fun c6 => ?_)
      · have hf := it_t hf c6
        have e9 := Option.some.inj hf
        rw [hQ]
        exact W.vret hx hb hr (fun t ht hW => ⟨⟨(sDr, fDc, fDd), rfl, e9, ⟨by rw [ht]; exact hP, va_K.moved hW.alike hK, hD⟩⟩, hS.F ht⟩) hS.2.2 dX1_lookDownTo_91
      · have hf := it_f hf c6
        refine lv_aload_n hx hb dX1_lookDownTo_36 rfl (lv_at hl 0 rfl) ?_
        refine lv_aload_n hx hb dX1_lookDownTo_37 rfl (lv_at hl 1 rfl) ?_
        refine lv_iload hx hb dX1_lookDownTo_38 (lv_at hl 5 rfl) ?_
        refine lv_iload_n hx hb dX1_lookDownTo_40 rfl (lv_at hl 3 rfl) ?_
        obtain ⟨o7, go7, hf⟩ := bd_s hf
        refine rk_Vv (wn := wDr K hDr rDr1 aDc aDd o7 ++ wAI K aDc nDc fDc ++ wAI K aDd nDd fDd ++ wRo K hRo sRo) [wDr K hDr rDr1 aDc aDd sDr, wAI K aDc nDc fDc, wAI K aDd nDd fDd, wRo K hRo sRo] [wDr K hDr rDr1 aDc aDd sDr, wRo K hRo sRo] [wDr K hDr rDr1 aDc aDd o7, wRo K hRo sRo] [wDr K hDr rDr1 aDc aDd o7, wAI K aDc nDc fDc, wAI K aDd nDd fDd, wRo K hRo sRo] (As := [.ref (hRo 99), .int x5, .int p3]) (rest := []) ⟨hx, hb, hml, hown, hts⟩ (c_X1_leaveStation l D K F hDr rDr1 aDc aDd hRo H.size sDr sRo x5 p3 o7 go7) (cwV 3 hts (gcV_X1_leaveStation (mB43 _ (List.mem_of_getElem? (i := 4) rfl))) rfl rfl rfl hdV_X1_leaveStation ⟨Nat.le_of_ble_eq_true rfl, Nat.le_of_ble_eq_true rfl⟩) hK hP hD hS hA [0, 3] (fl4 _ _ _ _) rfl (by decide) (fl2 _ _) (fl2 _ _) rfl rfl (fl4 _ _ _ _) (va_recv hK hP (ci := 1) (q0 := 0) rfl (rwl (rwl (rwl o_Dr)))) rfl hl.1 rfl (Nat.le_of_ble_eq_true rfl) dX1_lookDownTo_41 ⟨Nat.zero_le _, Nat.zero_le _⟩ (fun H locs hP hD hS => ?_)
        have hP : va_P D vwCl (wDr K hDr rDr1 aDc aDd o7 ++ wAI K aDc nDc fDc ++ wAI K aDd nDd fDd ++ wRo K hRo sRo) H := hP
        have hD : va_D A (wDr K hDr rDr1 aDc aDd o7 ++ wAI K aDc nDc fDc ++ wAI K aDd nDd fDd ++ wRo K hRo sRo) := hD
        refine lv_aload_n hx hb dX1_lookDownTo_44 rfl (lv_at hl 1 rfl) ?_
        refine lv_iload hx hb dX1_lookDownTo_45 (lv_at hl 5 rfl) ?_
        obtain ⟨o8, go8, hf⟩ := bd_s hf
        refine ro_Vi (As := [.int x5]) (rest := []) ⟨hx, hb, hml, hown, hts⟩ (c_X9_hasPumpAt l D K F hRo sRo x5 o8 go8) (cwV 1 hts (gcV_X9_hasPumpAt (mB39 _ (List.mem_of_getElem? (i := 18) rfl))) rfl rfl rfl hdV_X9_hasPumpAt ⟨Nat.le_of_ble_eq_true rfl, Nat.le_of_ble_eq_true rfl⟩) hK hP hS (va_PL (cs := [wDr K hDr rDr1 aDc aDd o7, wAI K aDc nDc fDc, wAI K aDd nDd fDd, wRo K hRo sRo]) (cc := [wRo K hRo sRo]) hP (fl4 _ _ _ _) [3] rfl (fl1 _)) (va_recv hK hP (ci := 8) (q0 := (((2 + 1) + 1) + 0)) rfl (rwr (lnA (lnA ln_Dr ln_AI) ln_AI) o_Ro)) rfl hl.1 rfl (Nat.le_of_ble_eq_true rfl) dX1_lookDownTo_47 ⟨Nat.zero_le _, Nat.zero_le _⟩ (fun H locs hP hS => ?_)
        refine lv_if_eq (tgt := 85) hx hb dX1_lookDownTo_50 (by decide) (fun c9 => ?_) (fun c9 => ?_)
        · have hf := it_t hf c9
          exact w85 (f_X1_lookDownTo_29 F nDc nDd sRo p2 p3 p4 n) ih x5 o7 fDc fDd H locs ls hf hP hD hS (lv_sub hl [0, 1, 2, 3, 4, 5] rfl)
        · have hf := it_f hf c9
          refine lv_aload_n hx hb dX1_lookDownTo_53 rfl (lv_at hl 0 rfl) ?_
          refine lv_aload_n hx hb dX1_lookDownTo_54 rfl (lv_at hl 1 rfl) ?_
          refine lv_iload_n hx hb dX1_lookDownTo_55 rfl (lv_at hl 2 rfl) ?_
          refine lv_iload hx hb dX1_lookDownTo_56 (lv_at hl 5 rfl) ?_
          refine lv_iload_n hx hb dX1_lookDownTo_58 rfl (lv_at hl 3 rfl) ?_
          refine lv_if_eq (tgt := 66) hx hb dX1_lookDownTo_59 (by decide) (fun c10 => ?_) (fun c10 => ?_)
          · have hf := it_t hf c10
            refine lv_aload_n hx hb dX1_lookDownTo_66 rfl (lv_at hl 0 rfl) ?_
            refine va_get (D := D) (ci := 1) (v := .long (o7.2.1 5)) (C := RX1) (T := TX1) (N := 6) hx hb hts iX1 hown hK hP 0 (rwl (rwl (rwl o_Dr))) rfl 5 (by decide) (htl _ (mB42 _ (List.mem_of_getElem? (i := 21) rfl))) (fun _ h9 => h9) rfl dX1_lookDownTo_67 ?_
            exact w70 (f_X1_lookDownTo_29 F nDc nDd sRo p2 p3 p4 n) ih x5 p2 x5 (o7.2.1 5) o7 fDc fDd H locs ls hf hP hD hS (lv_sub hl [0, 1, 2, 3, 4, 5] rfl)
          · have hf := it_f hf c10
            refine lv_lconst (v := (0 : Int64)) hx hb dX1_lookDownTo_62 (by decide) ?_
            refine lv_goto (tgt := 70) hx hb dX1_lookDownTo_63 (by decide) ?_
            exact w70 (f_X1_lookDownTo_29 F nDc nDd sRo p2 p3 p4 n) ih x5 p2 x5 (0 : Int64) o7 fDc fDd H locs ls hf hP hD hS (lv_sub hl [0, 1, 2, 3, 4, 5] rfl)
  have w18 : ∀ (y1 : Int64), ∀ (sDr : MS), ∀ (fDc : (Nat → Int32)), ∀ (fDd : (Nat → Int32)), ∀ (H : Heap) (locs : List Loc) (ls : Array Slot), f_X1_lookDownTo_18 F nDc nDd sRo p2 p3 p4 y1 sDr fDc fDd = some res → va_P D vwCl (wDr K hDr rDr1 aDc aDd sDr ++ wAI K aDc nDc fDc ++ wAI K aDd nDd fDd ++ wRo K hRo sRo) H → va_D A (wDr K hDr rDr1 aDc aDd sDr ++ wAI K aDc nDc fDc ++ wAI K aDd nDd fDd ++ wRo K hRo sRo) → va_S A s.heap H locs → lv_has ls 6 [(0, .ref (hDr 99)), (1, .ref (hRo 99)), (2, .int p2), (3, .int p3), (4, .int p4)] → W p l e (headSpec wz_X1_lookDownTo r_X1_lookDownTo).room s m args below meth c H locs 0 0 Q (F0 m 18 ls [.long y1, .ref (hDr 2)]) := by
    intro y1 sDr fDc fDd H locs ls hf hP hD hS hl
    unfold f_X1_lookDownTo_18 at hf
    obtain ⟨o3, go3, hf⟩ := bd_s hf
    refine rw_Sv (wn := wDr K hDr rDr1 aDc aDd (wB sDr 2 o3) ++ wAI K aDc nDc fDc ++ wAI K aDd nDd fDd ++ wRo K hRo sRo) (As := [.ref (hDr 2), .long y1]) (rest := []) ⟨hx, hb, hml, hown, hts⟩ (c_J7_fill_d0a16 l D K F (hDr 2) 41 H.size (sDr.2.2.2 2) y1 o3 go3) (va_cwS 2 hts (gcS_J7_fill_d0a16 (mB43 _ (List.mem_of_getElem? (i := 3) rfl))) rfl rfl rfl hdS_J7_fill_d0a16 ⟨Nat.le_of_ble_eq_true rfl, Nat.le_of_ble_eq_true rfl⟩) hK hP hD hS hA [1] [0, 2, 3, 4, 5, 6, 7, 8, 9, 10, 11, 12, 13] [0, 13, 1, 2, 3, 4, 5, 6, 7, 8, 9, 10, 11, 12] rfl rfl (by decide +kernel) (by decide +kernel) (by decide +kernel) rfl (by decide +kernel) rfl hl.1 rfl (Nat.le_of_ble_eq_true rfl) dX1_lookDownTo_18 ⟨Nat.zero_le _, Nat.zero_le _⟩ (fun H locs hP hD hS => ?_)
    have hP : va_P D vwCl (wDr K hDr rDr1 aDc aDd (wB sDr 2 o3) ++ wAI K aDc nDc fDc ++ wAI K aDd nDd fDd ++ wRo K hRo sRo) H := hP
    have hD : va_D A (wDr K hDr rDr1 aDc aDd (wB sDr 2 o3) ++ wAI K aDc nDc fDc ++ wAI K aDd nDd fDd ++ wRo K hRo sRo) := hD
    obtain ⟨s4, es4⟩ : ∃ z, z = (wB sDr 2 o3) := ⟨_, rfl⟩
    have hP : va_P D vwCl (wDr K hDr rDr1 aDc aDd s4 ++ wAI K aDc nDc fDc ++ wAI K aDd nDd fDd ++ wRo K hRo sRo) H := by rw [es4]; exact hP
    have hD : va_D A (wDr K hDr rDr1 aDc aDd s4 ++ wAI K aDc nDc fDc ++ wAI K aDd nDd fDd ++ wRo K hRo sRo) := by rw [es4]; exact hD
    have hf := lz_s hf s4 es4
    refine lv_aload_n hx hb dX1_lookDownTo_21 rfl (lv_at hl 1 rfl) ?_
    refine va_get (D := D) (ci := 8) (v := .int (sRo.1 8)) (C := RX9) (T := TX9) (N := 19) hx hb hts iX9 hown hK hP (((2 + 1) + 1) + 0) (rwr (lnA (lnA ln_Dr ln_AI) ln_AI) o_Ro) rfl 8 (by decide) (htl _ (mB39 _ (List.mem_of_getElem? (i := 17) rfl))) (fun _ h9 => h9) rfl dX1_lookDownTo_22 ?_
    refine lv_iconst (v := (2 : Int32)) hx hb dX1_lookDownTo_25 (by decide) ?_
    refine lv_isub hx hb dX1_lookDownTo_26 ?_
    refine lv_topi (fun v5 ev5 => ?_)
    have hf := lz_s hf v5 ev5
    refine lv_istore (lv' := [(5, .int v5), (0, .ref (hDr 99)), (1, .ref (hRo 99)), (2, .int p2), (3, .int p3), (4, .int p4)]) hx hb dX1_lookDownTo_27 hl (by decide) rfl (fun ls hl => ?_)
    exact w29 F v5 s4 fDc fDd H locs ls hf hP hD hS (lv_sub hl [1, 2, 3, 4, 5, 0] rfl)
  have hen : entryFrame m args 6 = entryFrame m (([.ref (hDr 99), .ref (hRo 99), .int p2, .int p3, .int p4] : List Value).toArray) 6 := by rw [hargs]
  have hl := lv_entry ([.ref (hDr 99), .ref (hRo 99), .int p2, .int p3, .int p4]) (n := 6) (Nat.le_of_ble_eq_true rfl)
  rw [hen, lg_entry_eq]
  generalize (lg_sl ([.ref (hDr 99), .ref (hRo 99), .int p2, .int p3, .int p4]) ++ List.replicate (6 - (lg_sl ([.ref (hDr 99), .ref (hRo 99), .int p2, .int p3, .int p4])).length) Slot.unset).toArray = ls at hl ⊢
  have hl : lv_has ls 6 [(0, .ref (hDr 99)), (1, .ref (hRo 99)), (2, .int p2), (3, .int p3), (4, .int p4)] := hl
  unfold f_X1_lookDownTo at hf
  obtain ⟨H, hHe⟩ : ∃ z, z = s.heap := ⟨_, rfl⟩
  obtain ⟨locs, hLe⟩ : ∃ z : List Loc, z = [] := ⟨_, rfl⟩
  rw [← hLe]
  have hS : va_S A s.heap H locs := by rw [hHe, hLe]; exact hS
  have hP : va_P D vwCl (wDr K hDr rDr1 aDc aDd sDr ++ wAI K aDc nDc fDc ++ wAI K aDd nDd fDd ++ wRo K hRo sRo) H := by rw [hHe]; exact hP
  have hgo : W p l e (headSpec wz_X1_lookDownTo r_X1_lookDownTo).room s m args below meth c H locs 0 0 Q (F0 m 0 ls []) := by
    refine lv_aload_n hx hb dX1_lookDownTo_0 rfl (lv_at hl 0 rfl) ?_
    refine lv_lconst (v := (1 : Int64)) hx hb dX1_lookDownTo_1 (by decide) ?_
    refine va_put (D := D) (ci := 1) (v := .long (1 : Int64)) (ty := .long) (C := RX1) (T := TX1) (N := 6) hx hb hts iX1 tyX1 tyX1_ok nmX1 hown hK hP hD hS 0 (rwl (rwl (rwl o_Dr))) rfl 5 (by decide) (htl _ (mB42 _ (List.mem_of_getElem? (i := 21) rfl))) (fun _ h9 => h9) rfl (by decide +kernel) rfl rfl (Nat.le_of_ble_eq_true rfl) dX1_lookDownTo_2 (fun H locs hP hD hS => ?_)
    have hP := cvP (stl (stl (stl si_Dr_5 (rlt o_Dr)) (rlt (rwl o_Dr))) (rlt (rwl (rwl o_Dr)))) hP
    have hD := cvD (stl (stl (stl si_Dr_5 (rlt o_Dr)) (rlt (rwl o_Dr))) (rlt (rwl (rwl o_Dr)))) hD
    obtain ⟨s1, es1⟩ : ∃ z, z = sL sDr 5 (1 : Int64) := ⟨_, rfl⟩
    have hP : va_P D vwCl (wDr K hDr rDr1 aDc aDd s1 ++ wAI K aDc nDc fDc ++ wAI K aDd nDd fDd ++ wRo K hRo sRo) H := by rw [es1]; exact hP
    have hD : va_D A (wDr K hDr rDr1 aDc aDd s1 ++ wAI K aDc nDc fDc ++ wAI K aDd nDd fDd ++ wRo K hRo sRo) := by rw [es1]; exact hD
    have hf := lz_s hf s1 es1
    refine lv_aload_n hx hb dX1_lookDownTo_5 rfl (lv_at hl 0 rfl) ?_
    refine va_get (D := D) (ci := 1) (v := .ref (hDr 2)) (C := RX1) (T := TX1) (N := 6) hx hb hts iX1 hown hK hP 0 (rwl (rwl (rwl o_Dr))) rfl 2 (by decide) (htl _ (mB4 _ (List.mem_of_getElem? (i := 13) rfl))) (fun _ h9 => h9) rfl dX1_lookDownTo_6 ?_
    refine lv_iload_n hx hb dX1_lookDownTo_9 rfl (lv_at hl 3 rfl) ?_
    refine lv_if_eq (tgt := 17) hx hb dX1_lookDownTo_10 (by decide) (fun c2 => ?_) (fun c2 => ?_)
    · have hf := it_t hf c2
      refine lv_lconst (v := (0 : Int64)) hx hb dX1_lookDownTo_17 (by decide) ?_
      exact w18 (0 : Int64) s1 fDc fDd H locs ls hf hP hD hS (lv_sub hl [0, 1, 2, 3, 4] rfl)
    · have hf := it_f hf c2
      refine lv_lconst (v := (1 : Int64)) hx hb dX1_lookDownTo_13 (by decide) ?_
      refine lv_goto (tgt := 18) hx hb dX1_lookDownTo_14 (by decide) ?_
      exact w18 (1 : Int64) s1 fDc fDd H locs ls hf hP hD hS (lv_sub hl [0, 1, 2, 3, 4] rfl)
  rw [hHe] at hgo
  exact hgo

theorem gcV_X1_lookDownTo {T0 : Cond} {own : String} {i : Nat} (h : Cond.methodLink own i yX1_lookDownTo ∈ wsL_law) : GoodIn (T0 :: wsL_law) (wsV own i RX1 yX1_lookDownTo wz_X1_lookDownTo) := gV h (mB42 _ (List.mem_of_getElem? (i := 23) rfl)) (mB43 _ (List.mem_of_getElem? (i := 0) rfl)) (mB2 _ (List.mem_of_getElem? (i := 6) rfl)) (mB43 _ (List.mem_of_getElem? (i := 1) rfl))
theorem hdV_X1_lookDownTo : yX1_lookDownTo.cls = RX1 ∧ yX1_lookDownTo.cls ≠ "java/lang/invoke/MethodHandle" ∧ yX1_lookDownTo.cls ≠ "java/lang/invoke/VarHandle" ∧ (parseMethodDescriptor yX1_lookDownTo.desc).map (fun d => d.parameters.length) = some 4 := by decide +kernel
def wz_X1_reckonMean : List Cond := .code yX1_reckonMean cX1_reckonMean 4 none :: wsL_law
abbrev r_X1_reckonMean : Room := { frames := 6, cells := 0, slots := 0, locals := 158 }
set_option maxHeartbeats 4000000 in
set_option maxRecDepth 100000 in
theorem c_X1_reckonMean (l : Launch) (D : va_G) (K : Nat → ClassId) (F : Nat) (hDr : Nat → Nat) (rDr1 : Nat) (aDc nDc : Nat) (aDd nDd : Nat) (hFr : Nat → Nat) (hRo : Nat → Nat) (sz : Nat) (sDr : MS) (fDc : (Nat → Int32)) (fDd : (Nat → Int32)) (sFr : MS) (sRo : MS) (p2 : Int32) (res : MS × (Nat → Int32) × (Nat → Int32) × MS) (hf : f_X1_reckonMean F nDc nDd sRo p2 sDr fDc fDd sFr = some res) : Met l yX1_reckonMean wz_X1_reckonMean r_X1_reckonMean (va_Pc [.ref (hDr 99), .ref (hRo 99), .int p2, .ref (hFr 99)] (PW D K (wDr K hDr rDr1 aDc aDd sDr ++ wAI K aDc nDc fDc ++ wAI K aDd nDd fDd ++ wFr K hFr sFr ++ wRo K hRo sRo) sz)) (va_Qv (fun u => u = res) (fun u t => BW D K (va_A (wDr K hDr rDr1 aDc aDd sDr ++ wAI K aDc nDc fDc ++ wAI K aDd nDd fDd ++ wFr K hFr sFr ++ wRo K hRo sRo) sz) (wDr K hDr rDr1 aDc aDd u.1 ++ wAI K aDc nDc u.2.1 ++ wAI K aDd nDd u.2.2.1 ++ wFr K hFr u.2.2.2 ++ wRo K hRo sRo) t) (va_A (wDr K hDr rDr1 aDc aDd sDr ++ wAI K aDc nDc fDc ++ wAI K aDd nDd fDd ++ wFr K hFr sFr ++ wRo K hRo sRo) sz)) 0 0 (va_A (wDr K hDr rDr1 aDc aDd sDr ++ wAI K aDc nDc fDc ++ wAI K aDd nDd fDd ++ wFr K hFr sFr ++ wRo K hRo sRo) sz) := by
  refine Met.ofW (cc := cX1_reckonMean) (maxL := 4) (ret := none) (by decide) rfl ?_
  intro p e s m args below meth c s₁ B hml hv
  obtain ⟨hargs, hsz, hP, hK, hD0⟩ := hv
  have hx := B.exec
  have hb := B.bytes
  have hr := B.returns
  have hts := atoms_spec (ws := wz_X1_reckonMean) B.pre
  have htl : ∀ w ∈ wsL_law, w.before args s = true := fun w h => hts w (List.mem_cons_of_mem _ h)
  have hown : s.vm.findClass RX1 = some m.cls := findClass_of_methodNamed B.named
  have hlocks := B.notSynchronized
  subst hsz
  have hD := hD0.self (sz := s.heap.size)
  generalize hAe : va_A (wDr K hDr rDr1 aDc aDd sDr ++ wAI K aDc nDc fDc ++ wAI K aDd nDd fDd ++ wFr K hFr sFr ++ wRo K hRo sRo) s.heap.size = A at hD ⊢
  have hA : ∀ q : Nat, s.heap.size ≤ q → A q := fun q h => by rw [← hAe]; exact Or.inr h
  have hS : va_S A s.heap s.heap [] := va_S.rf
  have iX1 : ∀ w ∈ wsX10, w ∈ wz_X1_reckonMean := fun w h => List.mem_cons_of_mem _ (inlX1 w h)
  have iX9 : ∀ w ∈ wsX90, w ∈ wz_X1_reckonMean := fun w h => List.mem_cons_of_mem _ (inlX9 w h)
  suffices hgo : ∀ Q : State → Prop, Q = MQ below (va_Qv (fun u => u = res) (fun u t => BW D K A (wDr K hDr rDr1 aDc aDd u.1 ++ wAI K aDc nDc u.2.1 ++ wAI K aDd nDd u.2.2.1 ++ wFr K hFr u.2.2.2 ++ wRo K hRo sRo) t) A) args s 0 0 A → W p l e (headSpec wz_X1_reckonMean r_X1_reckonMean).room s m args below meth c s.heap [] 0 0 Q (entryFrame m args 4) from hgo _ rfl
  intro Q hQ
  have hen : entryFrame m args 4 = entryFrame m (([.ref (hDr 99), .ref (hRo 99), .int p2, .ref (hFr 99)] : List Value).toArray) 4 := by rw [hargs]
  have hl := lv_entry ([.ref (hDr 99), .ref (hRo 99), .int p2, .ref (hFr 99)]) (n := 4) (Nat.le_of_ble_eq_true rfl)
  rw [hen, lg_entry_eq]
  generalize (lg_sl ([.ref (hDr 99), .ref (hRo 99), .int p2, .ref (hFr 99)]) ++ List.replicate (4 - (lg_sl ([.ref (hDr 99), .ref (hRo 99), .int p2, .ref (hFr 99)])).length) Slot.unset).toArray = ls at hl ⊢
  have hl : lv_has ls 4 [(0, .ref (hDr 99)), (1, .ref (hRo 99)), (2, .int p2), (3, .ref (hFr 99))] := hl
  unfold f_X1_reckonMean at hf
  obtain ⟨H, hHe⟩ : ∃ z, z = s.heap := ⟨_, rfl⟩
  obtain ⟨locs, hLe⟩ : ∃ z : List Loc, z = [] := ⟨_, rfl⟩
  rw [← hLe]
  have hS : va_S A s.heap H locs := by rw [hHe, hLe]; exact hS
  have hP : va_P D vwCl (wDr K hDr rDr1 aDc aDd sDr ++ wAI K aDc nDc fDc ++ wAI K aDd nDd fDd ++ wFr K hFr sFr ++ wRo K hRo sRo) H := by rw [hHe]; exact hP
  have hgo : W p l e (headSpec wz_X1_reckonMean r_X1_reckonMean).room s m args below meth c H locs 0 0 Q (F0 m 0 ls []) := by
    refine lv_aload_n hx hb dX1_reckonMean_0 rfl (lv_at hl 0 rfl) ?_
    refine lv_aload_n hx hb dX1_reckonMean_1 rfl (lv_at hl 1 rfl) ?_
    refine lv_iload_n hx hb dX1_reckonMean_2 rfl (lv_at hl 2 rfl) ?_
    refine lv_iconst (v := (0 : Int32)) hx hb dX1_reckonMean_3 (by decide) ?_
    refine lv_iconst (v := (0 : Int32)) hx hb dX1_reckonMean_4 (by decide) ?_
    obtain ⟨o1, go1, hf⟩ := bd_s hf
    refine rk_Vv (wn := wDr K hDr rDr1 aDc aDd o1.1 ++ wAI K aDc nDc o1.2.1 ++ wAI K aDd nDd o1.2.2 ++ wFr K hFr sFr ++ wRo K hRo sRo) [wDr K hDr rDr1 aDc aDd sDr, wAI K aDc nDc fDc, wAI K aDd nDd fDd, wFr K hFr sFr, wRo K hRo sRo] [wDr K hDr rDr1 aDc aDd sDr, wAI K aDc nDc fDc, wAI K aDd nDd fDd, wRo K hRo sRo] [wDr K hDr rDr1 aDc aDd o1.1, wAI K aDc nDc o1.2.1, wAI K aDd nDd o1.2.2, wRo K hRo sRo] [wDr K hDr rDr1 aDc aDd o1.1, wAI K aDc nDc o1.2.1, wAI K aDd nDd o1.2.2, wFr K hFr sFr, wRo K hRo sRo] (As := [.ref (hRo 99), .int p2, .int (0 : Int32), .int (0 : Int32)]) (rest := []) ⟨hx, hb, hml, hown, hts⟩ (c_X1_lookDownTo l D K F hDr rDr1 aDc nDc aDd nDd hRo H.size sDr fDc fDd sRo p2 (0 : Int32) (0 : Int32) o1 go1) (cwV 4 hts (gcV_X1_lookDownTo (mB42 _ (List.mem_of_getElem? (i := 22) rfl))) rfl rfl rfl hdV_X1_lookDownTo ⟨Nat.le_of_ble_eq_true rfl, Nat.le_of_ble_eq_true rfl⟩) hK hP hD hS hA [0, 1, 2, 4] (fl5 _ _ _ _ _) rfl (by decide) (fl4 _ _ _ _) (fl4 _ _ _ _) rfl rfl (fl5 _ _ _ _ _) (va_recv hK hP (ci := 1) (q0 := 0) rfl (rwl (rwl (rwl (rwl o_Dr))))) rfl hl.1 rfl (Nat.le_of_ble_eq_true rfl) dX1_reckonMean_5 ⟨Nat.zero_le _, Nat.zero_le _⟩ (fun H locs hP hD hS => ?_)
    have hP : va_P D vwCl (wDr K hDr rDr1 aDc aDd o1.1 ++ wAI K aDc nDc o1.2.1 ++ wAI K aDd nDd o1.2.2 ++ wFr K hFr sFr ++ wRo K hRo sRo) H := hP
    have hD : va_D A (wDr K hDr rDr1 aDc aDd o1.1 ++ wAI K aDc nDc o1.2.1 ++ wAI K aDd nDd o1.2.2 ++ wFr K hFr sFr ++ wRo K hRo sRo) := hD
    refine lv_aload_n hx hb dX1_reckonMean_8 rfl (lv_at hl 3 rfl) ?_
    refine lv_aload_n hx hb dX1_reckonMean_9 rfl (lv_at hl 0 rfl) ?_
    refine va_get (D := D) (ci := 1) (v := .ref (hDr 2)) (C := RX1) (T := TX1) (N := 6) hx hb hts iX1 hown hK hP 0 (rwl (rwl (rwl (rwl o_Dr)))) rfl 2 (by decide) (htl _ (mB4 _ (List.mem_of_getElem? (i := 13) rfl))) (fun _ h9 => h9) rfl dX1_reckonMean_10 ?_
    refine lv_aload_n hx hb dX1_reckonMean_13 rfl (lv_at hl 1 rfl) ?_
    refine va_get (D := D) (ci := 8) (v := .int (sRo.1 1)) (C := RX9) (T := TX9) (N := 19) hx hb hts iX9 hown hK hP ((((2 + 1) + 1) + 1) + 0) (rwr (lnA (lnA (lnA ln_Dr ln_AI) ln_AI) ln_Fr) o_Ro) rfl 1 (by decide) (htl _ (mB41 _ (List.mem_of_getElem? (i := 13) rfl))) (fun _ h9 => h9) rfl dX1_reckonMean_14 ?_
    obtain ⟨g2, hf⟩ := gd_s hf
    refine va_lald hx hb hK hP 1 1 (f := o1.1.2.2.2 2) (rwl (rwl (rwl (rwl a_Dr_2)))) rfl (vpb_in g2) dX1_reckonMean_17 ?_
    refine lv_topl (fun v3 ev3 => ?_)
    have hf := lz_s hf v3 ev3
    refine lv_aload_n hx hb dX1_reckonMean_18 rfl (lv_at hl 0 rfl) ?_
    refine va_get (D := D) (ci := 1) (v := .long (o1.1.2.1 5)) (C := RX1) (T := TX1) (N := 6) hx hb hts iX1 hown hK hP 0 (rwl (rwl (rwl (rwl o_Dr)))) rfl 5 (by decide) (htl _ (mB42 _ (List.mem_of_getElem? (i := 21) rfl))) (fun _ h9 => h9) rfl dX1_reckonMean_19 ?_
    obtain ⟨o4, go4, hf⟩ := bd_s hf
    refine rk_Vv (wn := wDr K hDr rDr1 aDc aDd o1.1 ++ wAI K aDc nDc o1.2.1 ++ wAI K aDd nDd o1.2.2 ++ wFr K hFr o4 ++ wRo K hRo sRo) [wDr K hDr rDr1 aDc aDd o1.1, wAI K aDc nDc o1.2.1, wAI K aDd nDd o1.2.2, wFr K hFr sFr, wRo K hRo sRo] [wFr K hFr sFr] [wFr K hFr o4] [wDr K hDr rDr1 aDc aDd o1.1, wAI K aDc nDc o1.2.1, wAI K aDd nDd o1.2.2, wFr K hFr o4, wRo K hRo sRo] (As := [.long v3, .long (o1.1.2.1 5)]) (rest := []) ⟨hx, hb, hml, hown, hts⟩ (c_X2_become l D K F hFr H.size sFr v3 (o1.1.2.1 5) o4 go4) (cwV 2 hts (gcV_X2_become (mB43 _ (List.mem_of_getElem? (i := 21) rfl))) rfl rfl rfl hdV_X2_become ⟨Nat.le_of_ble_eq_true rfl, Nat.le_of_ble_eq_true rfl⟩) hK hP hD hS hA [3] (fl5 _ _ _ _ _) rfl (by decide) (fl1 _) (fl1 _) rfl rfl (fl5 _ _ _ _ _) (va_recv hK hP (ci := 2) (q0 := (((2 + 1) + 1) + 0)) rfl (rwl (rwr (lnA (lnA ln_Dr ln_AI) ln_AI) o_Fr))) rfl hl.1 rfl (Nat.le_of_ble_eq_true rfl) dX1_reckonMean_22 ⟨Nat.zero_le _, Nat.zero_le _⟩ (fun H locs hP hD hS => ?_)
    have hP : va_P D vwCl (wDr K hDr rDr1 aDc aDd o1.1 ++ wAI K aDc nDc o1.2.1 ++ wAI K aDd nDd o1.2.2 ++ wFr K hFr o4 ++ wRo K hRo sRo) H := hP
    have hD : va_D A (wDr K hDr rDr1 aDc aDd o1.1 ++ wAI K aDc nDc o1.2.1 ++ wAI K aDd nDd o1.2.2 ++ wFr K hFr o4 ++ wRo K hRo sRo) := hD
    have e9 := Option.some.inj hf
    rw [hQ]
    exact W.vret hx hb hr (fun t ht hW => ⟨⟨(o1.1, o1.2.1, o1.2.2, o4), rfl, e9, ⟨by rw [ht]; exact hP, va_K.moved hW.alike hK, hD⟩⟩, hS.F ht⟩) hS.2.2 dX1_reckonMean_25
  rw [hHe] at hgo
  exact hgo

def wz_X1_reckonOdds : List Cond := .code yX1_reckonOdds cX1_reckonOdds 4 none :: wsL_law
abbrev r_X1_reckonOdds : Room := { frames := 6, cells := 0, slots := 0, locals := 158 }
set_option maxHeartbeats 4000000 in
set_option maxRecDepth 100000 in
theorem c_X1_reckonOdds (l : Launch) (D : va_G) (K : Nat → ClassId) (F : Nat) (hDr : Nat → Nat) (rDr1 : Nat) (aDc nDc : Nat) (aDd nDd : Nat) (hFr : Nat → Nat) (hRo : Nat → Nat) (sz : Nat) (sDr : MS) (fDc : (Nat → Int32)) (fDd : (Nat → Int32)) (sFr : MS) (sRo : MS) (p2 : Int32) (res : MS × (Nat → Int32) × (Nat → Int32) × MS) (hf : f_X1_reckonOdds F nDc nDd sRo p2 sDr fDc fDd sFr = some res) : Met l yX1_reckonOdds wz_X1_reckonOdds r_X1_reckonOdds (va_Pc [.ref (hDr 99), .ref (hRo 99), .int p2, .ref (hFr 99)] (PW D K (wDr K hDr rDr1 aDc aDd sDr ++ wAI K aDc nDc fDc ++ wAI K aDd nDd fDd ++ wFr K hFr sFr ++ wRo K hRo sRo) sz)) (va_Qv (fun u => u = res) (fun u t => BW D K (va_A (wDr K hDr rDr1 aDc aDd sDr ++ wAI K aDc nDc fDc ++ wAI K aDd nDd fDd ++ wFr K hFr sFr ++ wRo K hRo sRo) sz) (wDr K hDr rDr1 aDc aDd u.1 ++ wAI K aDc nDc u.2.1 ++ wAI K aDd nDd u.2.2.1 ++ wFr K hFr u.2.2.2 ++ wRo K hRo sRo) t) (va_A (wDr K hDr rDr1 aDc aDd sDr ++ wAI K aDc nDc fDc ++ wAI K aDd nDd fDd ++ wFr K hFr sFr ++ wRo K hRo sRo) sz)) 0 0 (va_A (wDr K hDr rDr1 aDc aDd sDr ++ wAI K aDc nDc fDc ++ wAI K aDd nDd fDd ++ wFr K hFr sFr ++ wRo K hRo sRo) sz) := by
  refine Met.ofW (cc := cX1_reckonOdds) (maxL := 4) (ret := none) (by decide) rfl ?_
  intro p e s m args below meth c s₁ B hml hv
  obtain ⟨hargs, hsz, hP, hK, hD0⟩ := hv
  have hx := B.exec
  have hb := B.bytes
  have hr := B.returns
  have hts := atoms_spec (ws := wz_X1_reckonOdds) B.pre
  have htl : ∀ w ∈ wsL_law, w.before args s = true := fun w h => hts w (List.mem_cons_of_mem _ h)
  have hown : s.vm.findClass RX1 = some m.cls := findClass_of_methodNamed B.named
  have hlocks := B.notSynchronized
  subst hsz
  have hD := hD0.self (sz := s.heap.size)
  generalize hAe : va_A (wDr K hDr rDr1 aDc aDd sDr ++ wAI K aDc nDc fDc ++ wAI K aDd nDd fDd ++ wFr K hFr sFr ++ wRo K hRo sRo) s.heap.size = A at hD ⊢
  have hA : ∀ q : Nat, s.heap.size ≤ q → A q := fun q h => by rw [← hAe]; exact Or.inr h
  have hS : va_S A s.heap s.heap [] := va_S.rf
  have iX1 : ∀ w ∈ wsX10, w ∈ wz_X1_reckonOdds := fun w h => List.mem_cons_of_mem _ (inlX1 w h)
  have iX9 : ∀ w ∈ wsX90, w ∈ wz_X1_reckonOdds := fun w h => List.mem_cons_of_mem _ (inlX9 w h)
  suffices hgo : ∀ Q : State → Prop, Q = MQ below (va_Qv (fun u => u = res) (fun u t => BW D K A (wDr K hDr rDr1 aDc aDd u.1 ++ wAI K aDc nDc u.2.1 ++ wAI K aDd nDd u.2.2.1 ++ wFr K hFr u.2.2.2 ++ wRo K hRo sRo) t) A) args s 0 0 A → W p l e (headSpec wz_X1_reckonOdds r_X1_reckonOdds).room s m args below meth c s.heap [] 0 0 Q (entryFrame m args 4) from hgo _ rfl
  intro Q hQ
  have hen : entryFrame m args 4 = entryFrame m (([.ref (hDr 99), .ref (hRo 99), .int p2, .ref (hFr 99)] : List Value).toArray) 4 := by rw [hargs]
  have hl := lv_entry ([.ref (hDr 99), .ref (hRo 99), .int p2, .ref (hFr 99)]) (n := 4) (Nat.le_of_ble_eq_true rfl)
  rw [hen, lg_entry_eq]
  generalize (lg_sl ([.ref (hDr 99), .ref (hRo 99), .int p2, .ref (hFr 99)]) ++ List.replicate (4 - (lg_sl ([.ref (hDr 99), .ref (hRo 99), .int p2, .ref (hFr 99)])).length) Slot.unset).toArray = ls at hl ⊢
  have hl : lv_has ls 4 [(0, .ref (hDr 99)), (1, .ref (hRo 99)), (2, .int p2), (3, .ref (hFr 99))] := hl
  unfold f_X1_reckonOdds at hf
  obtain ⟨H, hHe⟩ : ∃ z, z = s.heap := ⟨_, rfl⟩
  obtain ⟨locs, hLe⟩ : ∃ z : List Loc, z = [] := ⟨_, rfl⟩
  rw [← hLe]
  have hS : va_S A s.heap H locs := by rw [hHe, hLe]; exact hS
  have hP : va_P D vwCl (wDr K hDr rDr1 aDc aDd sDr ++ wAI K aDc nDc fDc ++ wAI K aDd nDd fDd ++ wFr K hFr sFr ++ wRo K hRo sRo) H := by rw [hHe]; exact hP
  have hgo : W p l e (headSpec wz_X1_reckonOdds r_X1_reckonOdds).room s m args below meth c H locs 0 0 Q (F0 m 0 ls []) := by
    refine lv_aload_n hx hb dX1_reckonOdds_0 rfl (lv_at hl 0 rfl) ?_
    refine lv_aload_n hx hb dX1_reckonOdds_1 rfl (lv_at hl 1 rfl) ?_
    refine lv_iload_n hx hb dX1_reckonOdds_2 rfl (lv_at hl 2 rfl) ?_
    refine lv_iconst (v := (1 : Int32)) hx hb dX1_reckonOdds_3 (by decide) ?_
    refine lv_iconst (v := (0 : Int32)) hx hb dX1_reckonOdds_4 (by decide) ?_
    obtain ⟨o1, go1, hf⟩ := bd_s hf
    refine rk_Vv (wn := wDr K hDr rDr1 aDc aDd o1.1 ++ wAI K aDc nDc o1.2.1 ++ wAI K aDd nDd o1.2.2 ++ wFr K hFr sFr ++ wRo K hRo sRo) [wDr K hDr rDr1 aDc aDd sDr, wAI K aDc nDc fDc, wAI K aDd nDd fDd, wFr K hFr sFr, wRo K hRo sRo] [wDr K hDr rDr1 aDc aDd sDr, wAI K aDc nDc fDc, wAI K aDd nDd fDd, wRo K hRo sRo] [wDr K hDr rDr1 aDc aDd o1.1, wAI K aDc nDc o1.2.1, wAI K aDd nDd o1.2.2, wRo K hRo sRo] [wDr K hDr rDr1 aDc aDd o1.1, wAI K aDc nDc o1.2.1, wAI K aDd nDd o1.2.2, wFr K hFr sFr, wRo K hRo sRo] (As := [.ref (hRo 99), .int p2, .int (1 : Int32), .int (0 : Int32)]) (rest := []) ⟨hx, hb, hml, hown, hts⟩ (c_X1_lookDownTo l D K F hDr rDr1 aDc nDc aDd nDd hRo H.size sDr fDc fDd sRo p2 (1 : Int32) (0 : Int32) o1 go1) (cwV 4 hts (gcV_X1_lookDownTo (mB42 _ (List.mem_of_getElem? (i := 22) rfl))) rfl rfl rfl hdV_X1_lookDownTo ⟨Nat.le_of_ble_eq_true rfl, Nat.le_of_ble_eq_true rfl⟩) hK hP hD hS hA [0, 1, 2, 4] (fl5 _ _ _ _ _) rfl (by decide) (fl4 _ _ _ _) (fl4 _ _ _ _) rfl rfl (fl5 _ _ _ _ _) (va_recv hK hP (ci := 1) (q0 := 0) rfl (rwl (rwl (rwl (rwl o_Dr))))) rfl hl.1 rfl (Nat.le_of_ble_eq_true rfl) dX1_reckonOdds_5 ⟨Nat.zero_le _, Nat.zero_le _⟩ (fun H locs hP hD hS => ?_)
    have hP : va_P D vwCl (wDr K hDr rDr1 aDc aDd o1.1 ++ wAI K aDc nDc o1.2.1 ++ wAI K aDd nDd o1.2.2 ++ wFr K hFr sFr ++ wRo K hRo sRo) H := hP
    have hD : va_D A (wDr K hDr rDr1 aDc aDd o1.1 ++ wAI K aDc nDc o1.2.1 ++ wAI K aDd nDd o1.2.2 ++ wFr K hFr sFr ++ wRo K hRo sRo) := hD
    refine lv_aload_n hx hb dX1_reckonOdds_8 rfl (lv_at hl 3 rfl) ?_
    refine lv_aload_n hx hb dX1_reckonOdds_9 rfl (lv_at hl 0 rfl) ?_
    refine va_get (D := D) (ci := 1) (v := .ref (hDr 2)) (C := RX1) (T := TX1) (N := 6) hx hb hts iX1 hown hK hP 0 (rwl (rwl (rwl (rwl o_Dr)))) rfl 2 (by decide) (htl _ (mB4 _ (List.mem_of_getElem? (i := 13) rfl))) (fun _ h9 => h9) rfl dX1_reckonOdds_10 ?_
    refine lv_aload_n hx hb dX1_reckonOdds_13 rfl (lv_at hl 1 rfl) ?_
    refine va_get (D := D) (ci := 8) (v := .int (sRo.1 1)) (C := RX9) (T := TX9) (N := 19) hx hb hts iX9 hown hK hP ((((2 + 1) + 1) + 1) + 0) (rwr (lnA (lnA (lnA ln_Dr ln_AI) ln_AI) ln_Fr) o_Ro) rfl 1 (by decide) (htl _ (mB41 _ (List.mem_of_getElem? (i := 13) rfl))) (fun _ h9 => h9) rfl dX1_reckonOdds_14 ?_
    obtain ⟨g2, hf⟩ := gd_s hf
    refine va_lald hx hb hK hP 1 1 (f := o1.1.2.2.2 2) (rwl (rwl (rwl (rwl a_Dr_2)))) rfl (vpb_in g2) dX1_reckonOdds_17 ?_
    refine lv_topl (fun v3 ev3 => ?_)
    have hf := lz_s hf v3 ev3
    refine lv_aload_n hx hb dX1_reckonOdds_18 rfl (lv_at hl 0 rfl) ?_
    refine va_get (D := D) (ci := 1) (v := .long (o1.1.2.1 5)) (C := RX1) (T := TX1) (N := 6) hx hb hts iX1 hown hK hP 0 (rwl (rwl (rwl (rwl o_Dr)))) rfl 5 (by decide) (htl _ (mB42 _ (List.mem_of_getElem? (i := 21) rfl))) (fun _ h9 => h9) rfl dX1_reckonOdds_19 ?_
    obtain ⟨o4, go4, hf⟩ := bd_s hf
    refine rk_Vv (wn := wDr K hDr rDr1 aDc aDd o1.1 ++ wAI K aDc nDc o1.2.1 ++ wAI K aDd nDd o1.2.2 ++ wFr K hFr o4 ++ wRo K hRo sRo) [wDr K hDr rDr1 aDc aDd o1.1, wAI K aDc nDc o1.2.1, wAI K aDd nDd o1.2.2, wFr K hFr sFr, wRo K hRo sRo] [wFr K hFr sFr] [wFr K hFr o4] [wDr K hDr rDr1 aDc aDd o1.1, wAI K aDc nDc o1.2.1, wAI K aDd nDd o1.2.2, wFr K hFr o4, wRo K hRo sRo] (As := [.long v3, .long (o1.1.2.1 5)]) (rest := []) ⟨hx, hb, hml, hown, hts⟩ (c_X2_become l D K F hFr H.size sFr v3 (o1.1.2.1 5) o4 go4) (cwV 2 hts (gcV_X2_become (mB43 _ (List.mem_of_getElem? (i := 21) rfl))) rfl rfl rfl hdV_X2_become ⟨Nat.le_of_ble_eq_true rfl, Nat.le_of_ble_eq_true rfl⟩) hK hP hD hS hA [3] (fl5 _ _ _ _ _) rfl (by decide) (fl1 _) (fl1 _) rfl rfl (fl5 _ _ _ _ _) (va_recv hK hP (ci := 2) (q0 := (((2 + 1) + 1) + 0)) rfl (rwl (rwr (lnA (lnA ln_Dr ln_AI) ln_AI) o_Fr))) rfl hl.1 rfl (Nat.le_of_ble_eq_true rfl) dX1_reckonOdds_22 ⟨Nat.zero_le _, Nat.zero_le _⟩ (fun H locs hP hD hS => ?_)
    have hP : va_P D vwCl (wDr K hDr rDr1 aDc aDd o1.1 ++ wAI K aDc nDc o1.2.1 ++ wAI K aDd nDd o1.2.2 ++ wFr K hFr o4 ++ wRo K hRo sRo) H := hP
    have hD : va_D A (wDr K hDr rDr1 aDc aDd o1.1 ++ wAI K aDc nDc o1.2.1 ++ wAI K aDd nDd o1.2.2 ++ wFr K hFr o4 ++ wRo K hRo sRo) := hD
    have e9 := Option.some.inj hf
    rw [hQ]
    exact W.vret hx hb hr (fun t ht hW => ⟨⟨(o1.1, o1.2.1, o1.2.2, o4), rfl, e9, ⟨by rw [ht]; exact hP, va_K.moved hW.alike hK, hD⟩⟩, hS.F ht⟩) hS.2.2 dX1_reckonOdds_25
  rw [hHe] at hgo
  exact hgo

def wz_X1_ruleOfLeastMean : List Cond := .code yX1_ruleOfLeastMean cX1_ruleOfLeastMean 6 (some .int) :: wsL_law
abbrev r_X1_ruleOfLeastMean : Room := { frames := 6, cells := 0, slots := 0, locals := 158 }
set_option maxHeartbeats 4000000 in
set_option maxRecDepth 100000 in
theorem c_X1_ruleOfLeastMean (l : Launch) (D : va_G) (K : Nat → ClassId) (F : Nat) (hDr : Nat → Nat) (rDr1 : Nat) (aDc nDc : Nat) (aDd nDd : Nat) (hRo : Nat → Nat) (sz : Nat) (sDr : MS) (fDc : (Nat → Int32)) (fDd : (Nat → Int32)) (sRo : MS) (res : Int32 × MS × (Nat → Int32) × (Nat → Int32)) (hf : f_X1_ruleOfLeastMean F nDc nDd sRo sDr fDc fDd = some res) : Met l yX1_ruleOfLeastMean wz_X1_ruleOfLeastMean r_X1_ruleOfLeastMean (va_Pc [.ref (hDr 99), .ref (hRo 99)] (PW D K (wDr K hDr rDr1 aDc aDd sDr ++ wAI K aDc nDc fDc ++ wAI K aDd nDd fDd ++ wRo K hRo sRo) sz)) (va_Qi (fun r u => r = res.1 ∧ u = res.2) (fun u t => BW D K (va_A (wDr K hDr rDr1 aDc aDd sDr ++ wAI K aDc nDc fDc ++ wAI K aDd nDd fDd ++ wRo K hRo sRo) sz) (wDr K hDr rDr1 aDc aDd u.1 ++ wAI K aDc nDc u.2.1 ++ wAI K aDd nDd u.2.2 ++ wRo K hRo sRo) t) (va_A (wDr K hDr rDr1 aDc aDd sDr ++ wAI K aDc nDc fDc ++ wAI K aDd nDd fDd ++ wRo K hRo sRo) sz)) 0 0 (va_A (wDr K hDr rDr1 aDc aDd sDr ++ wAI K aDc nDc fDc ++ wAI K aDd nDd fDd ++ wRo K hRo sRo) sz) := by
  refine Met.ofW (cc := cX1_ruleOfLeastMean) (maxL := 6) (ret := (some .int)) (by decide) rfl ?_
  intro p e s m args below meth c s₁ B hml hv
  obtain ⟨hargs, hsz, hP, hK, hD0⟩ := hv
  have hx := B.exec
  have hb := B.bytes
  have hr := B.returns
  have hts := atoms_spec (ws := wz_X1_ruleOfLeastMean) B.pre
  have htl : ∀ w ∈ wsL_law, w.before args s = true := fun w h => hts w (List.mem_cons_of_mem _ h)
  have hown : s.vm.findClass RX1 = some m.cls := findClass_of_methodNamed B.named
  have hlocks := B.notSynchronized
  subst hsz
  have hD := hD0.self (sz := s.heap.size)
  generalize hAe : va_A (wDr K hDr rDr1 aDc aDd sDr ++ wAI K aDc nDc fDc ++ wAI K aDd nDd fDd ++ wRo K hRo sRo) s.heap.size = A at hD ⊢
  have hA : ∀ q : Nat, s.heap.size ≤ q → A q := fun q h => by rw [← hAe]; exact Or.inr h
  have hS : va_S A s.heap s.heap [] := va_S.rf
  have iX1 : ∀ w ∈ wsX10, w ∈ wz_X1_ruleOfLeastMean := fun w h => List.mem_cons_of_mem _ (inlX1 w h)
  have iX9 : ∀ w ∈ wsX90, w ∈ wz_X1_ruleOfLeastMean := fun w h => List.mem_cons_of_mem _ (inlX9 w h)
  suffices hgo : ∀ Q : State → Prop, Q = MQ below (va_Qi (fun r u => r = res.1 ∧ u = res.2) (fun u t => BW D K A (wDr K hDr rDr1 aDc aDd u.1 ++ wAI K aDc nDc u.2.1 ++ wAI K aDd nDd u.2.2 ++ wRo K hRo sRo) t) A) args s 0 0 A → W p l e (headSpec wz_X1_ruleOfLeastMean r_X1_ruleOfLeastMean).room s m args below meth c s.heap [] 0 0 Q (entryFrame m args 6) from hgo _ rfl
  intro Q hQ
  have w54 : ∀ (k7 : Int32 → Int64 → Int32 → MS → (Nat → Int32) → (Nat → Int32) → Option (Int32 × MS × (Nat → Int32) × (Nat → Int32))), (∀ (x2 : Int32), ∀ (x3 : Int64), ∀ (x5 : Int32), ∀ (sDr : MS), ∀ (fDc : (Nat → Int32)), ∀ (fDd : (Nat → Int32)), ∀ (H : Heap) (locs : List Loc) (ls : Array Slot), k7 x2 x3 x5 sDr fDc fDd = some res → va_P D vwCl (wDr K hDr rDr1 aDc aDd sDr ++ wAI K aDc nDc fDc ++ wAI K aDd nDd fDd ++ wRo K hRo sRo) H → va_D A (wDr K hDr rDr1 aDc aDd sDr ++ wAI K aDc nDc fDc ++ wAI K aDd nDd fDd ++ wRo K hRo sRo) → va_S A s.heap H locs → lv_has ls 6 [(0, .ref (hDr 99)), (1, .ref (hRo 99)), (2, .int x2), (3, .long x3), (5, .int x5)] → W p l e (headSpec wz_X1_ruleOfLeastMean r_X1_ruleOfLeastMean).room s m args below meth c H locs 0 0 Q (F0 m 7 ls [])) → ∀ (x2 : Int32), ∀ (x3 : Int64), ∀ (x5 : Int32), ∀ (sDr : MS), ∀ (fDc : (Nat → Int32)), ∀ (fDd : (Nat → Int32)), ∀ (H : Heap) (locs : List Loc) (ls : Array Slot), f_X1_ruleOfLeastMean_54 F nDc nDd sRo k7 x2 x3 x5 sDr fDc fDd = some res → va_P D vwCl (wDr K hDr rDr1 aDc aDd sDr ++ wAI K aDc nDc fDc ++ wAI K aDd nDd fDd ++ wRo K hRo sRo) H → va_D A (wDr K hDr rDr1 aDc aDd sDr ++ wAI K aDc nDc fDc ++ wAI K aDd nDd fDd ++ wRo K hRo sRo) → va_S A s.heap H locs → lv_has ls 6 [(0, .ref (hDr 99)), (1, .ref (hRo 99)), (2, .int x2), (3, .long x3), (5, .int x5)] → W p l e (headSpec wz_X1_ruleOfLeastMean r_X1_ruleOfLeastMean).room s m args below meth c H locs 0 0 Q (F0 m 54 ls []) := by
    intro k7 hk7 x2 x3 x5 sDr fDc fDd H locs ls hf hP hD hS hl
    unfold f_X1_ruleOfLeastMean_54 at hf
    obtain ⟨v9, ev9⟩ : ∃ z : Int32, z = x5 + (1 : Int32) := ⟨_, rfl⟩
    have hf := lz_s hf v9 ev9
    refine lv_iinc (v := v9) (lv' := [(5, .int v9), (0, .ref (hDr 99)), (1, .ref (hRo 99)), (2, .int x2), (3, .long x3)]) hx hb dX1_ruleOfLeastMean_54 hl (k := 4) rfl (by rw [ev9]; rfl) (by decide) rfl (fun ls hl => ?_)
    refine lv_goto (tgt := 7) hx hb dX1_ruleOfLeastMean_57 (by decide) ?_
    exact hk7 x2 x3 v9 sDr fDc fDd H locs ls hf hP hD hS (lv_sub hl [1, 2, 3, 4, 0] rfl)
  have w41 : ∀ (k7 : Int32 → Int64 → Int32 → MS → (Nat → Int32) → (Nat → Int32) → Option (Int32 × MS × (Nat → Int32) × (Nat → Int32))), (∀ (x2 : Int32), ∀ (x3 : Int64), ∀ (x5 : Int32), ∀ (sDr : MS), ∀ (fDc : (Nat → Int32)), ∀ (fDd : (Nat → Int32)), ∀ (H : Heap) (locs : List Loc) (ls : Array Slot), k7 x2 x3 x5 sDr fDc fDd = some res → va_P D vwCl (wDr K hDr rDr1 aDc aDd sDr ++ wAI K aDc nDc fDc ++ wAI K aDd nDd fDd ++ wRo K hRo sRo) H → va_D A (wDr K hDr rDr1 aDc aDd sDr ++ wAI K aDc nDc fDc ++ wAI K aDd nDd fDd ++ wRo K hRo sRo) → va_S A s.heap H locs → lv_has ls 6 [(0, .ref (hDr 99)), (1, .ref (hRo 99)), (2, .int x2), (3, .long x3), (5, .int x5)] → W p l e (headSpec wz_X1_ruleOfLeastMean r_X1_ruleOfLeastMean).room s m args below meth c H locs 0 0 Q (F0 m 7 ls [])) → ∀ (x5 : Int32), ∀ (sDr : MS), ∀ (fDc : (Nat → Int32)), ∀ (fDd : (Nat → Int32)), ∀ (H : Heap) (locs : List Loc) (ls : Array Slot), f_X1_ruleOfLeastMean_41 F nDc nDd sRo k7 x5 sDr fDc fDd = some res → va_P D vwCl (wDr K hDr rDr1 aDc aDd sDr ++ wAI K aDc nDc fDc ++ wAI K aDd nDd fDd ++ wRo K hRo sRo) H → va_D A (wDr K hDr rDr1 aDc aDd sDr ++ wAI K aDc nDc fDc ++ wAI K aDd nDd fDd ++ wRo K hRo sRo) → va_S A s.heap H locs → lv_has ls 6 [(0, .ref (hDr 99)), (1, .ref (hRo 99)), (5, .int x5)] → W p l e (headSpec wz_X1_ruleOfLeastMean r_X1_ruleOfLeastMean).room s m args below meth c H locs 0 0 Q (F0 m 41 ls []) := by
    intro k7 hk7 x5 sDr fDc fDd H locs ls hf hP hD hS hl
    unfold f_X1_ruleOfLeastMean_41 at hf
    refine lv_aload_n hx hb dX1_ruleOfLeastMean_41 rfl (lv_at hl 0 rfl) ?_
    refine va_get (D := D) (ci := 1) (v := .ref (hDr 2)) (C := RX1) (T := TX1) (N := 6) hx hb hts iX1 hown hK hP 0 (rwl (rwl (rwl o_Dr))) rfl 2 (by decide) (htl _ (mB4 _ (List.mem_of_getElem? (i := 13) rfl))) (fun _ h9 => h9) rfl dX1_ruleOfLeastMean_42 ?_
    refine lv_aload_n hx hb dX1_ruleOfLeastMean_45 rfl (lv_at hl 1 rfl) ?_
    refine va_get (D := D) (ci := 8) (v := .int (sRo.1 1)) (C := RX9) (T := TX9) (N := 19) hx hb hts iX9 hown hK hP (((2 + 1) + 1) + 0) (rwr (lnA (lnA ln_Dr ln_AI) ln_AI) o_Ro) rfl 1 (by decide) (htl _ (mB41 _ (List.mem_of_getElem? (i := 13) rfl))) (fun _ h9 => h9) rfl dX1_ruleOfLeastMean_46 ?_
    obtain ⟨g7, hf⟩ := gd_s hf
    refine va_lald hx hb hK hP 1 1 (f := sDr.2.2.2 2) (rwl (rwl (rwl a_Dr_2))) rfl (vpb_in g7) dX1_ruleOfLeastMean_49 ?_
    refine lv_topl (fun v8 ev8 => ?_)
    have hf := lz_s hf v8 ev8
    refine lv_lstore_n (lv' := [(3, .long v8), (0, .ref (hDr 99)), (1, .ref (hRo 99)), (5, .int x5)]) hx hb dX1_ruleOfLeastMean_50 rfl hl (by decide) rfl (fun ls hl => ?_)
    refine lv_iload hx hb dX1_ruleOfLeastMean_51 (lv_at hl 3 rfl) ?_
    refine lv_istore_n (lv' := [(2, .int x5), (3, .long v8), (0, .ref (hDr 99)), (1, .ref (hRo 99)), (5, .int x5)]) hx hb dX1_ruleOfLeastMean_53 rfl hl (by decide) rfl (fun ls hl => ?_)
    exact w54 k7 hk7 x5 v8 x5 sDr fDc fDd H locs ls hf hP hD hS (lv_sub hl [2, 3, 0, 1, 4] rfl)
  have w7 : ∀ (n : Nat), ∀ (x2 : Int32), ∀ (x3 : Int64), ∀ (x5 : Int32), ∀ (sDr : MS), ∀ (fDc : (Nat → Int32)), ∀ (fDd : (Nat → Int32)), ∀ (H : Heap) (locs : List Loc) (ls : Array Slot), f_X1_ruleOfLeastMean_7 F nDc nDd sRo n x2 x3 x5 sDr fDc fDd = some res → va_P D vwCl (wDr K hDr rDr1 aDc aDd sDr ++ wAI K aDc nDc fDc ++ wAI K aDd nDd fDd ++ wRo K hRo sRo) H → va_D A (wDr K hDr rDr1 aDc aDd sDr ++ wAI K aDc nDc fDc ++ wAI K aDd nDd fDd ++ wRo K hRo sRo) → va_S A s.heap H locs → lv_has ls 6 [(0, .ref (hDr 99)), (1, .ref (hRo 99)), (2, .int x2), (3, .long x3), (5, .int x5)] → W p l e (headSpec wz_X1_ruleOfLeastMean r_X1_ruleOfLeastMean).room s m args below meth c H locs 0 0 Q (F0 m 7 ls []) := by
    intro n
    induction n with
    | zero =>
      intro x2 x3 x5 sDr fDc fDd H locs ls hf
      exact absurd (show none = some res from hf) (fun h => nomatch h)
    | succ n ih =>
      intro x2 x3 x5 sDr fDc fDd H locs ls hf hP hD hS hl
      rw [f_X1_ruleOfLeastMean_7] at hf
      refine lv_iload hx hb dX1_ruleOfLeastMean_7 (lv_at hl 4 rfl) ?_
      refine lv_iconst (v := (4 : Int32)) hx hb dX1_ruleOfLeastMean_9 (by decide) ?_
      refine lv_icmp_ge (tgt := 60) hx hb dX1_ruleOfLeastMean_10 (by decide) (fun c1 => ?_) (fun c1 => ?_)
      · have hf := it_t hf c1
        refine lv_iload_n hx hb dX1_ruleOfLeastMean_60 rfl (lv_at hl 2 rfl) ?_
        have e9 := Option.some.inj hf
        rw [hQ]
        exact W.iret (v := x2) hx hb hr (fun t ht hW => ⟨⟨x2, (sDr, fDc, fDd), rfl, ⟨pr1 e9, pr2 e9⟩, ⟨by rw [ht]; exact hP, va_K.moved hW.alike hK, hD⟩⟩, hS.F ht⟩) hS.2.2 dX1_ruleOfLeastMean_61
      · have hf := it_f hf c1
        refine lv_aload_n hx hb dX1_ruleOfLeastMean_13 rfl (lv_at hl 0 rfl) ?_
        refine lv_aload_n hx hb dX1_ruleOfLeastMean_14 rfl (lv_at hl 1 rfl) ?_
        refine lv_iload hx hb dX1_ruleOfLeastMean_15 (lv_at hl 4 rfl) ?_
        refine lv_iconst (v := (0 : Int32)) hx hb dX1_ruleOfLeastMean_17 (by decide) ?_
        refine lv_iconst (v := (0 : Int32)) hx hb dX1_ruleOfLeastMean_18 (by decide) ?_
        obtain ⟨o2, go2, hf⟩ := bd_s hf
        refine rs_Vv (As := [.ref (hRo 99), .int x5, .int (0 : Int32), .int (0 : Int32)]) (rest := []) ⟨hx, hb, hml, hown, hts⟩ (c_X1_lookDownTo l D K F hDr rDr1 aDc nDc aDd nDd hRo H.size sDr fDc fDd sRo x5 (0 : Int32) (0 : Int32) o2 go2) (cwV 4 hts (gcV_X1_lookDownTo (mB42 _ (List.mem_of_getElem? (i := 22) rfl))) rfl rfl rfl hdV_X1_lookDownTo ⟨Nat.le_of_ble_eq_true rfl, Nat.le_of_ble_eq_true rfl⟩) hK hP hD hS hA (va_recv hK hP (ci := 1) (q0 := 0) rfl (rwl (rwl (rwl o_Dr)))) rfl hl.1 rfl (Nat.le_of_ble_eq_true rfl) dX1_ruleOfLeastMean_19 ⟨Nat.zero_le _, Nat.zero_le _⟩ (fun H locs hP hD hS => ?_)
        have hP : va_P D vwCl (wDr K hDr rDr1 aDc aDd o2.1 ++ wAI K aDc nDc o2.2.1 ++ wAI K aDd nDd o2.2.2 ++ wRo K hRo sRo) H := hP
        have hD : va_D A (wDr K hDr rDr1 aDc aDd o2.1 ++ wAI K aDc nDc o2.2.1 ++ wAI K aDd nDd o2.2.2 ++ wRo K hRo sRo) := hD
        refine lv_iload hx hb dX1_ruleOfLeastMean_22 (lv_at hl 4 rfl) ?_
        refine lv_if_eq (tgt := 41) hx hb dX1_ruleOfLeastMean_24 (by decide) (fun c3 => ?_) (fun c3 => ?_)
        · have hf := it_t hf c3
          exact w41 (f_X1_ruleOfLeastMean_7 F nDc nDd sRo n) ih x5 o2.1 o2.2.1 o2.2.2 H locs ls hf hP hD hS (lv_sub hl [0, 1, 4] rfl)
        · have hf := it_f hf c3
          refine lv_aload_n hx hb dX1_ruleOfLeastMean_27 rfl (lv_at hl 0 rfl) ?_
          refine va_get (D := D) (ci := 1) (v := .ref (hDr 2)) (C := RX1) (T := TX1) (N := 6) hx hb hts iX1 hown hK hP 0 (rwl (rwl (rwl o_Dr))) rfl 2 (by decide) (htl _ (mB4 _ (List.mem_of_getElem? (i := 13) rfl))) (fun _ h9 => h9) rfl dX1_ruleOfLeastMean_28 ?_
          refine lv_aload_n hx hb dX1_ruleOfLeastMean_31 rfl (lv_at hl 1 rfl) ?_
          refine va_get (D := D) (ci := 8) (v := .int (sRo.1 1)) (C := RX9) (T := TX9) (N := 19) hx hb hts iX9 hown hK hP (((2 + 1) + 1) + 0) (rwr (lnA (lnA ln_Dr ln_AI) ln_AI) o_Ro) rfl 1 (by decide) (htl _ (mB41 _ (List.mem_of_getElem? (i := 13) rfl))) (fun _ h9 => h9) rfl dX1_ruleOfLeastMean_32 ?_
          obtain ⟨g4, hf⟩ := gd_s hf
          refine va_lald hx hb hK hP 1 1 (f := o2.1.2.2.2 2) (rwl (rwl (rwl a_Dr_2))) rfl (vpb_in g4) dX1_ruleOfLeastMean_35 ?_
          refine lv_topl (fun v5 ev5 => ?_)
          have hf := lz_s hf v5 ev5
          refine lv_lload_n hx hb dX1_ruleOfLeastMean_36 rfl (lv_at hl 3 rfl) ?_
          refine W.lcmp hx hb dX1_ruleOfLeastMean_37 ?_
          refine lv_if_ge (tgt := 54) hx hb dX1_ruleOfLeastMean_38 (by decide) (fun c6 => ?_) (fun c6 => ?_)
          · have hf := it_t hf c6
            exact w54 (f_X1_ruleOfLeastMean_7 F nDc nDd sRo n) ih x2 x3 x5 o2.1 o2.2.1 o2.2.2 H locs ls hf hP hD hS (lv_sub hl [0, 1, 2, 3, 4] rfl)
          · have hf := it_f hf c6
            exact w41 (f_X1_ruleOfLeastMean_7 F nDc nDd sRo n) ih x5 o2.1 o2.2.1 o2.2.2 H locs ls hf hP hD hS (lv_sub hl [0, 1, 4] rfl)
  have hen : entryFrame m args 6 = entryFrame m (([.ref (hDr 99), .ref (hRo 99)] : List Value).toArray) 6 := by rw [hargs]
  have hl := lv_entry ([.ref (hDr 99), .ref (hRo 99)]) (n := 6) (Nat.le_of_ble_eq_true rfl)
  rw [hen, lg_entry_eq]
  generalize (lg_sl ([.ref (hDr 99), .ref (hRo 99)]) ++ List.replicate (6 - (lg_sl ([.ref (hDr 99), .ref (hRo 99)])).length) Slot.unset).toArray = ls at hl ⊢
  have hl : lv_has ls 6 [(0, .ref (hDr 99)), (1, .ref (hRo 99))] := hl
  unfold f_X1_ruleOfLeastMean at hf
  obtain ⟨H, hHe⟩ : ∃ z, z = s.heap := ⟨_, rfl⟩
  obtain ⟨locs, hLe⟩ : ∃ z : List Loc, z = [] := ⟨_, rfl⟩
  rw [← hLe]
  have hS : va_S A s.heap H locs := by rw [hHe, hLe]; exact hS
  have hP : va_P D vwCl (wDr K hDr rDr1 aDc aDd sDr ++ wAI K aDc nDc fDc ++ wAI K aDd nDd fDd ++ wRo K hRo sRo) H := by rw [hHe]; exact hP
  have hgo : W p l e (headSpec wz_X1_ruleOfLeastMean r_X1_ruleOfLeastMean).room s m args below meth c H locs 0 0 Q (F0 m 0 ls []) := by
    refine lv_iconst (v := (0 : Int32)) hx hb dX1_ruleOfLeastMean_0 (by decide) ?_
    refine lv_istore_n (lv' := [(2, .int (0 : Int32)), (0, .ref (hDr 99)), (1, .ref (hRo 99))]) hx hb dX1_ruleOfLeastMean_1 rfl hl (by decide) rfl (fun ls hl => ?_)
    refine lv_lconst (v := (0 : Int64)) hx hb dX1_ruleOfLeastMean_2 (by decide) ?_
    refine lv_lstore_n (lv' := [(3, .long (0 : Int64)), (2, .int (0 : Int32)), (0, .ref (hDr 99)), (1, .ref (hRo 99))]) hx hb dX1_ruleOfLeastMean_3 rfl hl (by decide) rfl (fun ls hl => ?_)
    refine lv_iconst (v := (0 : Int32)) hx hb dX1_ruleOfLeastMean_4 (by decide) ?_
    refine lv_istore (lv' := [(5, .int (0 : Int32)), (3, .long (0 : Int64)), (2, .int (0 : Int32)), (0, .ref (hDr 99)), (1, .ref (hRo 99))]) hx hb dX1_ruleOfLeastMean_5 hl (by decide) rfl (fun ls hl => ?_)
    exact w7 F (0 : Int32) (0 : Int64) (0 : Int32) sDr fDc fDd H locs ls hf hP hD hS (lv_sub hl [3, 4, 2, 1, 0] rfl)
  rw [hHe] at hgo
  exact hgo

def wz_X1_bestPints : List Cond := .code yX1_bestPints cX1_bestPints 5 (some .int) :: wsL_law
abbrev r_X1_bestPints : Room := { frames := 6, cells := 0, slots := 0, locals := 158 }
set_option maxHeartbeats 4000000 in
set_option maxRecDepth 100000 in
theorem c_X1_bestPints (l : Launch) (D : va_G) (K : Nat → ClassId) (F : Nat) (hDr : Nat → Nat) (rDr1 : Nat) (aDc nDc : Nat) (aDd nDd : Nat) (hRo : Nat → Nat) (sz : Nat) (sDr : MS) (fDc : (Nat → Int32)) (fDd : (Nat → Int32)) (sRo : MS) (p2 : Int32) (p3 : Int32) (p4 : Int32) (res : Int32 × MS × (Nat → Int32) × (Nat → Int32)) (hf : f_X1_bestPints F nDc nDd sRo p2 p3 p4 sDr fDc fDd = some res) : Met l yX1_bestPints wz_X1_bestPints r_X1_bestPints (va_Pc [.ref (hDr 99), .ref (hRo 99), .int p2, .int p3, .int p4] (PW D K (wDr K hDr rDr1 aDc aDd sDr ++ wAI K aDc nDc fDc ++ wAI K aDd nDd fDd ++ wRo K hRo sRo) sz)) (va_Qi (fun r u => r = res.1 ∧ u = res.2) (fun u t => BW D K (va_A (wDr K hDr rDr1 aDc aDd sDr ++ wAI K aDc nDc fDc ++ wAI K aDd nDd fDd ++ wRo K hRo sRo) sz) (wDr K hDr rDr1 aDc aDd u.1 ++ wAI K aDc nDc u.2.1 ++ wAI K aDd nDd u.2.2 ++ wRo K hRo sRo) t) (va_A (wDr K hDr rDr1 aDc aDd sDr ++ wAI K aDc nDc fDc ++ wAI K aDd nDd fDd ++ wRo K hRo sRo) sz)) 0 0 (va_A (wDr K hDr rDr1 aDc aDd sDr ++ wAI K aDc nDc fDc ++ wAI K aDd nDd fDd ++ wRo K hRo sRo) sz) := by
  refine Met.ofW (cc := cX1_bestPints) (maxL := 5) (ret := (some .int)) (by decide) rfl ?_
  intro p e s m args below meth c s₁ B hml hv
  obtain ⟨hargs, hsz, hP, hK, hD0⟩ := hv
  have hx := B.exec
  have hb := B.bytes
  have hr := B.returns
  have hts := atoms_spec (ws := wz_X1_bestPints) B.pre
  have htl : ∀ w ∈ wsL_law, w.before args s = true := fun w h => hts w (List.mem_cons_of_mem _ h)
  have hown : s.vm.findClass RX1 = some m.cls := findClass_of_methodNamed B.named
  have hlocks := B.notSynchronized
  subst hsz
  have hD := hD0.self (sz := s.heap.size)
  generalize hAe : va_A (wDr K hDr rDr1 aDc aDd sDr ++ wAI K aDc nDc fDc ++ wAI K aDd nDd fDd ++ wRo K hRo sRo) s.heap.size = A at hD ⊢
  have hA : ∀ q : Nat, s.heap.size ≤ q → A q := fun q h => by rw [← hAe]; exact Or.inr h
  have hS : va_S A s.heap s.heap [] := va_S.rf
  have iX1 : ∀ w ∈ wsX10, w ∈ wz_X1_bestPints := fun w h => List.mem_cons_of_mem _ (inlX1 w h)
  suffices hgo : ∀ Q : State → Prop, Q = MQ below (va_Qi (fun r u => r = res.1 ∧ u = res.2) (fun u t => BW D K A (wDr K hDr rDr1 aDc aDd u.1 ++ wAI K aDc nDc u.2.1 ++ wAI K aDd nDd u.2.2 ++ wRo K hRo sRo) t) A) args s 0 0 A → W p l e (headSpec wz_X1_bestPints r_X1_bestPints).room s m args below meth c s.heap [] 0 0 Q (entryFrame m args 5) from hgo _ rfl
  intro Q hQ
  have hen : entryFrame m args 5 = entryFrame m (([.ref (hDr 99), .ref (hRo 99), .int p2, .int p3, .int p4] : List Value).toArray) 5 := by rw [hargs]
  have hl := lv_entry ([.ref (hDr 99), .ref (hRo 99), .int p2, .int p3, .int p4]) (n := 5) (Nat.le_of_ble_eq_true rfl)
  rw [hen, lg_entry_eq]
  generalize (lg_sl ([.ref (hDr 99), .ref (hRo 99), .int p2, .int p3, .int p4]) ++ List.replicate (5 - (lg_sl ([.ref (hDr 99), .ref (hRo 99), .int p2, .int p3, .int p4])).length) Slot.unset).toArray = ls at hl ⊢
  have hl : lv_has ls 5 [(0, .ref (hDr 99)), (1, .ref (hRo 99)), (2, .int p2), (3, .int p3), (4, .int p4)] := hl
  unfold f_X1_bestPints at hf
  obtain ⟨H, hHe⟩ : ∃ z, z = s.heap := ⟨_, rfl⟩
  obtain ⟨locs, hLe⟩ : ∃ z : List Loc, z = [] := ⟨_, rfl⟩
  rw [← hLe]
  have hS : va_S A s.heap H locs := by rw [hHe, hLe]; exact hS
  have hP : va_P D vwCl (wDr K hDr rDr1 aDc aDd sDr ++ wAI K aDc nDc fDc ++ wAI K aDd nDd fDd ++ wRo K hRo sRo) H := by rw [hHe]; exact hP
  have hgo : W p l e (headSpec wz_X1_bestPints r_X1_bestPints).room s m args below meth c H locs 0 0 Q (F0 m 0 ls []) := by
    refine lv_aload_n hx hb dX1_bestPints_0 rfl (lv_at hl 0 rfl) ?_
    refine lv_aload_n hx hb dX1_bestPints_1 rfl (lv_at hl 1 rfl) ?_
    refine lv_iconst (v := (4 : Int32)) hx hb dX1_bestPints_2 (by decide) ?_
    refine lv_iconst (v := (0 : Int32)) hx hb dX1_bestPints_3 (by decide) ?_
    refine lv_iload_n hx hb dX1_bestPints_4 rfl (lv_at hl 2 rfl) ?_
    refine lv_iconst (v := (1 : Int32)) hx hb dX1_bestPints_5 (by decide) ?_
    refine lv_iadd hx hb dX1_bestPints_6 ?_
    obtain ⟨o1, go1, hf⟩ := bd_s hf
    refine rs_Vv (As := [.ref (hRo 99), .int (4 : Int32), .int (0 : Int32), .int (p2 + (1 : Int32))]) (rest := []) ⟨hx, hb, hml, hown, hts⟩ (c_X1_lookDownTo l D K F hDr rDr1 aDc nDc aDd nDd hRo H.size sDr fDc fDd sRo (4 : Int32) (0 : Int32) (p2 + (1 : Int32)) o1 go1) (cwV 4 hts (gcV_X1_lookDownTo (mB42 _ (List.mem_of_getElem? (i := 22) rfl))) rfl rfl rfl hdV_X1_lookDownTo ⟨Nat.le_of_ble_eq_true rfl, Nat.le_of_ble_eq_true rfl⟩) hK hP hD hS hA (va_recv hK hP (ci := 1) (q0 := 0) rfl (rwl (rwl (rwl o_Dr)))) rfl hl.1 rfl (Nat.le_of_ble_eq_true rfl) dX1_bestPints_7 ⟨Nat.zero_le _, Nat.zero_le _⟩ (fun H locs hP hD hS => ?_)
    have hP : va_P D vwCl (wDr K hDr rDr1 aDc aDd o1.1 ++ wAI K aDc nDc o1.2.1 ++ wAI K aDd nDd o1.2.2 ++ wRo K hRo sRo) H := hP
    have hD : va_D A (wDr K hDr rDr1 aDc aDd o1.1 ++ wAI K aDc nDc o1.2.1 ++ wAI K aDd nDd o1.2.2 ++ wRo K hRo sRo) := hD
    refine lv_aload_n hx hb dX1_bestPints_10 rfl (lv_at hl 0 rfl) ?_
    refine lv_aload_n hx hb dX1_bestPints_11 rfl (lv_at hl 1 rfl) ?_
    refine lv_iload_n hx hb dX1_bestPints_12 rfl (lv_at hl 2 rfl) ?_
    refine lv_iconst (v := (0 : Int32)) hx hb dX1_bestPints_13 (by decide) ?_
    obtain ⟨o2, go2, hf⟩ := bd_s hf
    refine rk_Vv (wn := wDr K hDr rDr1 aDc aDd o2 ++ wAI K aDc nDc o1.2.1 ++ wAI K aDd nDd o1.2.2 ++ wRo K hRo sRo) [wDr K hDr rDr1 aDc aDd o1.1, wAI K aDc nDc o1.2.1, wAI K aDd nDd o1.2.2, wRo K hRo sRo] [wDr K hDr rDr1 aDc aDd o1.1, wRo K hRo sRo] [wDr K hDr rDr1 aDc aDd o2, wRo K hRo sRo] [wDr K hDr rDr1 aDc aDd o2, wAI K aDc nDc o1.2.1, wAI K aDd nDd o1.2.2, wRo K hRo sRo] (As := [.ref (hRo 99), .int p2, .int (0 : Int32)]) (rest := []) ⟨hx, hb, hml, hown, hts⟩ (c_X1_leaveStation l D K F hDr rDr1 aDc aDd hRo H.size o1.1 sRo p2 (0 : Int32) o2 go2) (cwV 3 hts (gcV_X1_leaveStation (mB43 _ (List.mem_of_getElem? (i := 4) rfl))) rfl rfl rfl hdV_X1_leaveStation ⟨Nat.le_of_ble_eq_true rfl, Nat.le_of_ble_eq_true rfl⟩) hK hP hD hS hA [0, 3] (fl4 _ _ _ _) rfl (by decide) (fl2 _ _) (fl2 _ _) rfl rfl (fl4 _ _ _ _) (va_recv hK hP (ci := 1) (q0 := 0) rfl (rwl (rwl (rwl o_Dr)))) rfl hl.1 rfl (Nat.le_of_ble_eq_true rfl) dX1_bestPints_14 ⟨Nat.zero_le _, Nat.zero_le _⟩ (fun H locs hP hD hS => ?_)
    have hP : va_P D vwCl (wDr K hDr rDr1 aDc aDd o2 ++ wAI K aDc nDc o1.2.1 ++ wAI K aDd nDd o1.2.2 ++ wRo K hRo sRo) H := hP
    have hD : va_D A (wDr K hDr rDr1 aDc aDd o2 ++ wAI K aDc nDc o1.2.1 ++ wAI K aDd nDd o1.2.2 ++ wRo K hRo sRo) := hD
    refine lv_aload_n hx hb dX1_bestPints_17 rfl (lv_at hl 0 rfl) ?_
    refine lv_aload_n hx hb dX1_bestPints_18 rfl (lv_at hl 1 rfl) ?_
    refine lv_iconst (v := (4 : Int32)) hx hb dX1_bestPints_19 (by decide) ?_
    refine lv_iload_n hx hb dX1_bestPints_20 rfl (lv_at hl 2 rfl) ?_
    refine lv_iload hx hb dX1_bestPints_21 (lv_at hl 4 rfl) ?_
    refine lv_aload_n hx hb dX1_bestPints_23 rfl (lv_at hl 0 rfl) ?_
    refine va_get (D := D) (ci := 1) (v := .long (o2.2.1 5)) (C := RX1) (T := TX1) (N := 6) hx hb hts iX1 hown hK hP 0 (rwl (rwl (rwl o_Dr))) rfl 5 (by decide) (htl _ (mB42 _ (List.mem_of_getElem? (i := 21) rfl))) (fun _ h9 => h9) rfl dX1_bestPints_24 ?_
    refine lv_aload_n hx hb dX1_bestPints_27 rfl (lv_at hl 0 rfl) ?_
    refine va_get (D := D) (ci := 1) (v := .ref aDc) (C := RX1) (T := TX1) (N := 6) hx hb hts iX1 hown hK hP 0 (rwl (rwl (rwl o_Dr))) rfl 3 (by decide) (htl _ (mB4 _ (List.mem_of_getElem? (i := 14) rfl))) (fun _ h9 => h9) rfl dX1_bestPints_28 ?_
    obtain ⟨o3, go3, hf⟩ := bd_s hf
    refine rk_Vv (wn := wDr K hDr rDr1 aDc aDd o2 ++ wAI K aDc nDc o3 ++ wAI K aDd nDd o1.2.2 ++ wRo K hRo sRo) [wDr K hDr rDr1 aDc aDd o2, wAI K aDc nDc o1.2.1, wAI K aDd nDd o1.2.2, wRo K hRo sRo] [wDr K hDr rDr1 aDc aDd o2, wRo K hRo sRo, wAI K aDc nDc o1.2.1] [wDr K hDr rDr1 aDc aDd o2, wRo K hRo sRo, wAI K aDc nDc o3] [wDr K hDr rDr1 aDc aDd o2, wAI K aDc nDc o3, wAI K aDd nDd o1.2.2, wRo K hRo sRo] (As := [.ref (hRo 99), .int (4 : Int32), .int p2, .int p4, .long (o2.2.1 5), .ref aDc]) (rest := []) ⟨hx, hb, hml, hown, hts⟩ (c_X1_chooseAll l D K F hDr rDr1 aDc aDd hRo aDc nDc H.size o2 sRo o1.2.1 (4 : Int32) p2 p4 (o2.2.1 5) o3 go3) (cwV 6 hts (gcV_X1_chooseAll (mB43 _ (List.mem_of_getElem? (i := 15) rfl))) rfl rfl rfl hdV_X1_chooseAll ⟨Nat.le_of_ble_eq_true rfl, Nat.le_of_ble_eq_true rfl⟩) hK hP hD hS hA [0, 3, 1] (fl4 _ _ _ _) rfl (by decide) (fl3 _ _ _) (fl3 _ _ _) rfl rfl (fl4 _ _ _ _) (va_recv hK hP (ci := 1) (q0 := 0) rfl (rwl (rwl (rwl o_Dr)))) rfl hl.1 rfl (Nat.le_of_ble_eq_true rfl) dX1_bestPints_31 ⟨Nat.zero_le _, Nat.zero_le _⟩ (fun H locs hP hD hS => ?_)
    have hP : va_P D vwCl (wDr K hDr rDr1 aDc aDd o2 ++ wAI K aDc nDc o3 ++ wAI K aDd nDd o1.2.2 ++ wRo K hRo sRo) H := hP
    have hD : va_D A (wDr K hDr rDr1 aDc aDd o2 ++ wAI K aDc nDc o3 ++ wAI K aDd nDd o1.2.2 ++ wRo K hRo sRo) := hD
    refine lv_aload_n hx hb dX1_bestPints_34 rfl (lv_at hl 0 rfl) ?_
    refine va_get (D := D) (ci := 1) (v := .ref aDc) (C := RX1) (T := TX1) (N := 6) hx hb hts iX1 hown hK hP 0 (rwl (rwl (rwl o_Dr))) rfl 3 (by decide) (htl _ (mB4 _ (List.mem_of_getElem? (i := 14) rfl))) (fun _ h9 => h9) rfl dX1_bestPints_35 ?_
    refine lv_iload_n hx hb dX1_bestPints_38 rfl (lv_at hl 3 rfl) ?_
    obtain ⟨g4, hf⟩ := gd_s hf
    refine va_iald hx hb hK hP (2 + 0) 0 (f := o3) (rwl (rwl (rwr ln_Dr o_AI))) rfl (vpb_in g4) dX1_bestPints_39 ?_
    refine lv_iload_n hx hb dX1_bestPints_40 rfl (lv_at hl 3 rfl) ?_
    refine lv_isub hx hb dX1_bestPints_41 ?_
    have e9 := Option.some.inj hf
    rw [hQ]
    exact W.iret (v := ((o3 p3.toNatClampNeg) - p3)) hx hb hr (fun t ht hW => ⟨⟨((o3 p3.toNatClampNeg) - p3), (o2, o3, o1.2.2), rfl, ⟨pr1 e9, pr2 e9⟩, ⟨by rw [ht]; exact hP, va_K.moved hW.alike hK, hD⟩⟩, hS.F ht⟩) hS.2.2 dX1_bestPints_42
  rw [hHe] at hgo
  exact hgo
