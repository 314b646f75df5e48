def wz_X8_beforeBuying : List Cond := .code yX8_beforeBuying cX8_beforeBuying 5 (some .long) :: wsL_law
abbrev r_X8_beforeBuying : Room := { frames := 0, cells := 0, slots := 0, locals := 0 }
set_option maxHeartbeats 4000000 in
set_option maxRecDepth 100000 in
theorem c_X8_beforeBuying (l : Launch) (D : va_G) (K : Nat → ClassId) (F : Nat) (p0 : Int32) (p1 : Int32) (p2 : Int64) (res : Int64) (hf : f_X8_beforeBuying F p0 p1 p2 = some res) : Met l yX8_beforeBuying wz_X8_beforeBuying r_X8_beforeBuying (va_Pc [.int p0, .int p1, .long p2] (PR D K (([] : va_W)))) (va_Ql (fun r (_ : Unit) => r = res) BN nOne) 0 0 nOne := by
  refine Met.ofW (cc := cX8_beforeBuying) (maxL := 5) (ret := (some .long)) (by decide) rfl ?_
  intro p e s m args below meth c s₁ B hml hv
  obtain ⟨hargs, hP, hK⟩ := hv
  have hx := B.exec
  have hb := B.bytes
  have hr := B.returns
  have hts := atoms_spec (ws := wz_X8_beforeBuying) B.pre
  have htl : ∀ w ∈ wsL_law, w.before args s = true := fun w h => hts w (List.mem_cons_of_mem _ h)
  have hown : s.vm.findClass RX8 = some m.cls := findClass_of_methodNamed B.named
  have hlocks := B.notSynchronized
  have hS : va_S nOne s.heap s.heap [] := va_S.rf
  suffices hgo : ∀ Q : State → Prop, Q = MQ below (va_Ql (fun r (_ : Unit) => r = res) BN nOne) args s 0 0 nOne → W p l e (headSpec wz_X8_beforeBuying r_X8_beforeBuying).room s m args below meth c s.heap [] 0 0 Q (entryFrame m args 5) from hgo _ rfl
  intro Q hQ
  have hen : entryFrame m args 5 = entryFrame m (([.int p0, .int p1, .long p2] : List Value).toArray) 5 := by rw [hargs]
  have hl := lv_entry ([.int p0, .int p1, .long p2]) (n := 5) (Nat.le_of_ble_eq_true rfl)
  rw [hen, lg_entry_eq]
  generalize (lg_sl ([.int p0, .int p1, .long p2]) ++ List.replicate (5 - (lg_sl ([.int p0, .int p1, .long p2])).length) Slot.unset).toArray = ls at hl ⊢
  have hl : lv_has ls 5 [(0, .int p0), (1, .int p1), (2, .long p2)] := hl
  unfold f_X8_beforeBuying at hf
  obtain ⟨H, hHe⟩ : ∃ z, z = s.heap := ⟨_, rfl⟩
  obtain ⟨locs, hLe⟩ : ∃ z : List Loc, z = [] := ⟨_, rfl⟩
  rw [← hLe]
  have hS : va_S nOne s.heap H locs := by rw [hHe, hLe]; exact hS
  have hP : va_P D vwCl (([] : va_W)) H := by rw [hHe]; exact hP
  have hgo : W p l e (headSpec wz_X8_beforeBuying r_X8_beforeBuying).room s m args below meth c H locs 0 0 Q (F0 m 0 ls []) := by
    refine lv_iload_n hx hb dX8_beforeBuying_0 rfl (lv_at hl 1 rfl) ?_
    refine lv_if_eq (tgt := 10) hx hb dX8_beforeBuying_1 (by decide) (fun c1 => ?_) (fun c1 => ?_)
    · have hf := it_t hf c1
      refine lv_lconst (v := (0 : Int64)) hx hb dX8_beforeBuying_10 (by decide) ?_
      have e9 := Option.some.inj hf
      rw [hQ]
      exact W.lret (v := (0 : Int64)) hx hb hr (fun t ht hW => ⟨⟨(0 : Int64), (), rfl, e9, trivial⟩, hS.F ht⟩) hS.2.2 dX8_beforeBuying_11
    · have hf := it_f hf c1
      refine lv_iload_n hx hb dX8_beforeBuying_4 rfl (lv_at hl 0 rfl) ?_
      refine lv_iload_n hx hb dX8_beforeBuying_5 rfl (lv_at hl 1 rfl) ?_
      obtain ⟨g2, hf⟩ := gd_s hf
      refine lv_irem hx hb dX8_beforeBuying_6 (nzb_s g2) ?_
      refine lv_if_eq (tgt := 12) hx hb dX8_beforeBuying_7 (by decide) (fun c3 => ?_) (fun c3 => ?_)
      · have hf := it_t hf c3
        refine lv_iload_n hx hb dX8_beforeBuying_12 rfl (lv_at hl 0 rfl) ?_
        refine lv_iload_n hx hb dX8_beforeBuying_13 rfl (lv_at hl 1 rfl) ?_
        obtain ⟨g4, hf⟩ := gd_s hf
        refine lv_idiv hx hb dX8_beforeBuying_14 (nzb_s g4) ?_
        refine lv_istore (lv' := [(4, .int (p0 / p1)), (0, .int p0), (1, .int p1), (2, .long p2)]) hx hb dX8_beforeBuying_15 hl (by decide) rfl (fun ls hl => ?_)
        refine lv_iload hx hb dX8_beforeBuying_17 (lv_at hl 0 rfl) ?_
        refine lv_bipush (v := (40 : Int32)) hx hb dX8_beforeBuying_19 (by decide) ?_
        refine lv_icmp_le (tgt := 28) hx hb dX8_beforeBuying_21 (by decide) (fun c5 => ?_) (fun c5 => ?_)
        · have hf := it_t hf c5
          refine lv_lload_n hx hb dX8_beforeBuying_28 rfl (lv_at hl 3 rfl) ?_
          refine lv_iload hx hb dX8_beforeBuying_29 (lv_at hl 0 rfl) ?_
          refine lv_lshr (v := (p2 >>> ((p0 / p1).toInt64 &&& 63))) hx hb dX8_beforeBuying_31 rfl ?_
          have e9 := Option.some.inj hf
          rw [hQ]
          exact W.lret (v := (p2 >>> ((p0 / p1).toInt64 &&& 63))) hx hb hr (fun t ht hW => ⟨⟨(p2 >>> ((p0 / p1).toInt64 &&& 63)), (), rfl, e9, trivial⟩, hS.F ht⟩) hS.2.2 dX8_beforeBuying_32
        · have hf := it_f hf c5
          refine lv_lconst (v := (0 : Int64)) hx hb dX8_beforeBuying_24 (by decide) ?_
          refine lv_goto (tgt := 32) hx hb dX8_beforeBuying_25 (by decide) ?_
          have e9 := Option.some.inj hf
          rw [hQ]
          exact W.lret (v := (0 : Int64)) hx hb hr (fun t ht hW => ⟨⟨(0 : Int64), (), rfl, e9, trivial⟩, hS.F ht⟩) hS.2.2 dX8_beforeBuying_32
      · have hf := it_f hf c3
        refine lv_lconst (v := (0 : Int64)) hx hb dX8_beforeBuying_10 (by decide) ?_
        have e9 := Option.some.inj hf
        rw [hQ]
        exact W.lret (v := (0 : Int64)) hx hb hr (fun t ht hW => ⟨⟨(0 : Int64), (), rfl, e9, trivial⟩, hS.F ht⟩) hS.2.2 dX8_beforeBuying_11
  rw [hHe] at hgo
  exact hgo

theorem gcS_X8_beforeBuying {T0 : Cond} {own : String} {i : Nat} (h : Cond.methodLink own i yX8_beforeBuying ∈ wsL_law) : GoodIn (T0 :: wsL_law) (va_wsS own i yX8_beforeBuying wz_X8_beforeBuying) := gS h (mB56 _ (List.mem_of_getElem? (i := 20) rfl)) (mB2 _ (List.mem_of_getElem? (i := 14) rfl)) (mB56 _ (List.mem_of_getElem? (i := 21) rfl))
theorem hdS_X8_beforeBuying : yX8_beforeBuying.cls ≠ "java/lang/invoke/MethodHandle" ∧ yX8_beforeBuying.cls ≠ "java/lang/invoke/VarHandle" ∧ (parseMethodDescriptor yX8_beforeBuying.desc).map (fun d => d.parameters.length) = some 3 := by decide +kernel
def wz_X8_beforeReceipt : List Cond := .code yX8_beforeReceipt cX8_beforeReceipt 6 (some .long) :: wsL_law
abbrev r_X8_beforeReceipt : Room := { frames := 1, cells := 0, slots := 0, locals := 24 }
set_option maxHeartbeats 4000000 in
set_option maxRecDepth 100000 in
theorem c_X8_beforeReceipt (l : Launch) (D : va_G) (K : Nat → ClassId) (F : Nat) (hRo : Nat → Nat) (sRo : MS) (p1 : Int32) (p2 : Int64) (res : Int64) (hf : f_X8_beforeReceipt F sRo p1 p2 = some res) : Met l yX8_beforeReceipt wz_X8_beforeReceipt r_X8_beforeReceipt (va_Pc [.ref (hRo 99), .int p1, .long p2] (PR D K (wRo K hRo sRo))) (va_Ql (fun r (_ : Unit) => r = res) BN nOne) 0 0 nOne := by
  refine Met.ofW (cc := cX8_beforeReceipt) (maxL := 6) (ret := (some .long)) (by decide) rfl ?_
  intro p e s m args below meth c s₁ B hml hv
  obtain ⟨hargs, hP, hK⟩ := hv
  have hx := B.exec
  have hb := B.bytes
  have hr := B.returns
  have hts := atoms_spec (ws := wz_X8_beforeReceipt) B.pre
  have htl : ∀ w ∈ wsL_law, w.before args s = true := fun w h => hts w (List.mem_cons_of_mem _ h)
  have hown : s.vm.findClass RX8 = some m.cls := findClass_of_methodNamed B.named
  have hlocks := B.notSynchronized
  have hS : va_S nOne s.heap s.heap [] := va_S.rf
  have iX9 : ∀ w ∈ wsX90, w ∈ wz_X8_beforeReceipt := fun w h => List.mem_cons_of_mem _ (inlX9 w h)
  suffices hgo : ∀ Q : State → Prop, Q = MQ below (va_Ql (fun r (_ : Unit) => r = res) BN nOne) args s 0 0 nOne → W p l e (headSpec wz_X8_beforeReceipt r_X8_beforeReceipt).room s m args below meth c s.heap [] 0 0 Q (entryFrame m args 6) from hgo _ rfl
  intro Q hQ
  have hen : entryFrame m args 6 = entryFrame m (([.ref (hRo 99), .int p1, .long p2] : List Value).toArray) 6 := by rw [hargs]
  have hl := lv_entry ([.ref (hRo 99), .int p1, .long p2]) (n := 6) (Nat.le_of_ble_eq_true rfl)
  rw [hen, lg_entry_eq]
  generalize (lg_sl ([.ref (hRo 99), .int p1, .long p2]) ++ List.replicate (6 - (lg_sl ([.ref (hRo 99), .int p1, .long p2])).length) Slot.unset).toArray = ls at hl ⊢
  have hl : lv_has ls 6 [(0, .ref (hRo 99)), (1, .int p1), (2, .long p2)] := hl
  unfold f_X8_beforeReceipt at hf
  obtain ⟨H, hHe⟩ : ∃ z, z = s.heap := ⟨_, rfl⟩
  obtain ⟨locs, hLe⟩ : ∃ z : List Loc, z = [] := ⟨_, rfl⟩
  rw [← hLe]
  have hS : va_S nOne s.heap H locs := by rw [hHe, hLe]; exact hS
  have hP : va_P D vwCl (wRo K hRo sRo) H := by rw [hHe]; exact hP
  have hgo : W p l e (headSpec wz_X8_beforeReceipt r_X8_beforeReceipt).room s m args below meth c H locs 0 0 Q (F0 m 0 ls []) := by
    refine lv_aload_n hx hb dX8_beforeReceipt_0 rfl (lv_at hl 0 rfl) ?_
    refine va_get (D := D) (ci := 8) (v := .ref (hRo 17)) (C := RX9) (T := TX9) (N := 19) hx hb hts iX9 hown hK hP 0 o_Ro rfl 17 (by decide) (htl _ (mB56 _ (List.mem_of_getElem? (i := 12) rfl))) (fun _ h9 => h9) rfl dX8_beforeReceipt_1 ?_
    refine lv_iload_n hx hb dX8_beforeReceipt_4 rfl (lv_at hl 1 rfl) ?_
    obtain ⟨g1, hf⟩ := gd_s hf
    refine va_iald hx hb hK hP 8 0 (f := sRo.2.2.1 17) a_Ro_17 rfl (vpb_in g1) dX8_beforeReceipt_5 ?_
    refine lv_topi (fun v2 ev2 => ?_)
    have hf := lz_s hf v2 ev2
    refine lv_istore (lv' := [(4, .int v2), (0, .ref (hRo 99)), (1, .int p1), (2, .long p2)]) hx hb dX8_beforeReceipt_6 hl (by decide) rfl (fun ls hl => ?_)
    refine lv_aload_n hx hb dX8_beforeReceipt_8 rfl (lv_at hl 1 rfl) ?_
    refine va_get (D := D) (ci := 8) (v := .ref (hRo 18)) (C := RX9) (T := TX9) (N := 19) hx hb hts iX9 hown hK hP 0 o_Ro rfl 18 (by decide) (htl _ (mB56 _ (List.mem_of_getElem? (i := 16) rfl))) (fun _ h9 => h9) rfl dX8_beforeReceipt_9 ?_
    refine lv_iload_n hx hb dX8_beforeReceipt_12 rfl (lv_at hl 2 rfl) ?_
    obtain ⟨g3, hf⟩ := gd_s hf
    refine va_iald hx hb hK hP 9 0 (f := sRo.2.2.1 18) a_Ro_18 rfl (vpb_in g3) dX8_beforeReceipt_13 ?_
    refine lv_topi (fun v4 ev4 => ?_)
    have hf := lz_s hf v4 ev4
    refine lv_istore (lv' := [(5, .int v4), (4, .int v2), (0, .ref (hRo 99)), (1, .int p1), (2, .long p2)]) hx hb dX8_beforeReceipt_14 hl (by decide) rfl (fun ls hl => ?_)
    refine lv_iload hx hb dX8_beforeReceipt_16 (lv_at hl 0 rfl) ?_
    refine lv_aload_n hx hb dX8_beforeReceipt_18 rfl (lv_at hl 2 rfl) ?_
    refine va_get (D := D) (ci := 8) (v := .ref (hRo 12)) (C := RX9) (T := TX9) (N := 19) hx hb hts iX9 hown hK hP 0 o_Ro rfl 12 (by decide) (htl _ (mB56 _ (List.mem_of_getElem? (i := 17) rfl))) (fun _ h9 => h9) rfl dX8_beforeReceipt_19 ?_
    refine lv_iload hx hb dX8_beforeReceipt_22 (lv_at hl 1 rfl) ?_
    obtain ⟨g5, hf⟩ := gd_s hf
    refine va_iald hx hb hK hP 3 0 (f := sRo.2.2.1 12) a_Ro_12 rfl (vpb_in g5) dX8_beforeReceipt_24 ?_
    refine lv_topi (fun v6 ev6 => ?_)
    have hf := lz_s hf v6 ev6
    refine lv_lload_n hx hb dX8_beforeReceipt_25 rfl (lv_at hl 4 rfl) ?_
    obtain ⟨o7, go7, hf⟩ := bd_s hf
    refine ro_Sl (As := [.int v4, .int v6, .long p2]) (rest := []) ⟨hx, hb, hml, hown, hts⟩ (c_X8_beforeBuying l D K F v4 v6 p2 o7 go7) (va_cwS 3 hts (gcS_X8_beforeBuying (mB56 _ (List.mem_of_getElem? (i := 19) rfl))) rfl rfl rfl hdS_X8_beforeBuying ⟨Nat.le_of_ble_eq_true rfl, Nat.le_of_ble_eq_true rfl⟩) hK hP hS va_Pnil rfl hl.1 rfl (Nat.le_of_ble_eq_true rfl) dX8_beforeReceipt_26 ⟨Nat.zero_le _, Nat.zero_le _⟩ (fun H locs hP hS => ?_)
    refine lv_iload hx hb dX8_beforeReceipt_29 (lv_at hl 0 rfl) ?_
    refine lv_aload_n hx hb dX8_beforeReceipt_31 rfl (lv_at hl 2 rfl) ?_
    refine va_get (D := D) (ci := 8) (v := .ref (hRo 13)) (C := RX9) (T := TX9) (N := 19) hx hb hts iX9 hown hK hP 0 o_Ro rfl 13 (by decide) (htl _ (mB56 _ (List.mem_of_getElem? (i := 18) rfl))) (fun _ h9 => h9) rfl dX8_beforeReceipt_32 ?_
    refine lv_iload hx hb dX8_beforeReceipt_35 (lv_at hl 1 rfl) ?_
    obtain ⟨g8, hf⟩ := gd_s hf
    refine va_iald hx hb hK hP 4 0 (f := sRo.2.2.1 13) a_Ro_13 rfl (vpb_in g8) dX8_beforeReceipt_37 ?_
    refine lv_topi (fun v9 ev9 => ?_)
    have hf := lz_s hf v9 ev9
    refine lv_lload_n hx hb dX8_beforeReceipt_38 rfl (lv_at hl 4 rfl) ?_
    obtain ⟨o10, go10, hf⟩ := bd_s hf
    refine ro_Sl (As := [.int v4, .int v9, .long p2]) (rest := [.long o7]) ⟨hx, hb, hml, hown, hts⟩ (c_X8_beforeBuying l D K F v4 v9 p2 o10 go10) (va_cwS 3 hts (gcS_X8_beforeBuying (mB56 _ (List.mem_of_getElem? (i := 19) rfl))) rfl rfl rfl hdS_X8_beforeBuying ⟨Nat.le_of_ble_eq_true rfl, Nat.le_of_ble_eq_true rfl⟩) hK hP hS va_Pnil rfl hl.1 rfl (Nat.le_of_ble_eq_true rfl) dX8_beforeReceipt_39 ⟨Nat.zero_le _, Nat.zero_le _⟩ (fun H locs hP hS => ?_)
    refine lv_lor hx hb dX8_beforeReceipt_42 ?_
    have e9 := Option.some.inj hf
    rw [hQ]
    exact W.lret (v := (o7 ||| o10)) hx hb hr (fun t ht hW => ⟨⟨(o7 ||| o10), (), rfl, e9, trivial⟩, hS.F ht⟩) hS.2.2 dX8_beforeReceipt_43
  rw [hHe] at hgo
  exact hgo

theorem gcS_X8_beforeReceipt {T0 : Cond} {own : String} {i : Nat} (h : Cond.methodLink own i yX8_beforeReceipt ∈ wsL_law) : GoodIn (T0 :: wsL_law) (va_wsS own i yX8_beforeReceipt wz_X8_beforeReceipt) := gS h (mB56 _ (List.mem_of_getElem? (i := 14) rfl)) (mB2 _ (List.mem_of_getElem? (i := 14) rfl)) (mB56 _ (List.mem_of_getElem? (i := 15) rfl))
theorem hdS_X8_beforeReceipt : yX8_beforeReceipt.cls ≠ "java/lang/invoke/MethodHandle" ∧ yX8_beforeReceipt.cls ≠ "java/lang/invoke/VarHandle" ∧ (parseMethodDescriptor yX8_beforeReceipt.desc).map (fun d => d.parameters.length) = some 3 := by decide +kernel
def wz_X8_fittingBeginnings : List Cond := .code yX8_fittingBeginnings cX8_fittingBeginnings 9 (some .long) :: wsL_law
abbrev r_X8_fittingBeginnings : Room := { frames := 2, cells := 0, slots := 0, locals := 49 }
set_option maxHeartbeats 4000000 in
set_option maxRecDepth 100000 in
theorem c_X8_fittingBeginnings (l : Launch) (D : va_G) (K : Nat → ClassId) (F : Nat) (hRe : Nat → Nat) (hRo : Nat → Nat) (sRe : MS) (sRo : MS) (p2 : Int32) (res : Int64) (hf : f_X8_fittingBeginnings F sRe sRo p2 = some res) : Met l yX8_fittingBeginnings wz_X8_fittingBeginnings r_X8_fittingBeginnings (va_Pc [.ref (hRe 99), .ref (hRo 99), .int p2] (PR D K (wRe K hRe sRe ++ wRo K hRo sRo))) (va_Ql (fun r (_ : Unit) => r = res) BN nOne) 0 0 nOne := by
  refine Met.ofW (cc := cX8_fittingBeginnings) (maxL := 9) (ret := (some .long)) (by decide) rfl ?_
  intro p e s m args below meth c s₁ B hml hv
  obtain ⟨hargs, hP, hK⟩ := hv
  have hx := B.exec
  have hb := B.bytes
  have hr := B.returns
  have hts := atoms_spec (ws := wz_X8_fittingBeginnings) B.pre
  have htl : ∀ w ∈ wsL_law, w.before args s = true := fun w h => hts w (List.mem_cons_of_mem _ h)
  have hown : s.vm.findClass RX8 = some m.cls := findClass_of_methodNamed B.named
  have hlocks := B.notSynchronized
  have hS : va_S nOne s.heap s.heap [] := va_S.rf
  have iX8 : ∀ w ∈ wsX80, w ∈ wz_X8_fittingBeginnings := fun w h => List.mem_cons_of_mem _ (inlX8 w h)
  have iX9 : ∀ w ∈ wsX90, w ∈ wz_X8_fittingBeginnings := fun w h => List.mem_cons_of_mem _ (inlX9 w h)
  suffices hgo : ∀ Q : State → Prop, Q = MQ below (va_Ql (fun r (_ : Unit) => r = res) BN nOne) args s 0 0 nOne → W p l e (headSpec wz_X8_fittingBeginnings r_X8_fittingBeginnings).room s m args below meth c s.heap [] 0 0 Q (entryFrame m args 9) from hgo _ rfl
  intro Q hQ
  have w108 : ∀ (x5 : Int64), ∀ (x7 : Int32), ∀ (H : Heap) (locs : List Loc) (ls : Array Slot), f_X8_fittingBeginnings_108 F sRe sRo p2 x5 x7 = some res → va_P D vwCl (wRe K hRe sRe ++ wRo K hRo sRo) H → va_S nOne s.heap H locs → lv_has ls 9 [(5, .long x5), (7, .int x7)] → W p l e (headSpec wz_X8_fittingBeginnings r_X8_fittingBeginnings).room s m args below meth c H locs 0 0 Q (F0 m 108 ls []) := by
    intro x5 x7 H locs ls hf hP hS hl
    unfold f_X8_fittingBeginnings_108 at hf
    refine lv_iload hx hb dX8_fittingBeginnings_108 (lv_at hl 1 rfl) ?_
    refine lv_if_ge (tgt := 118) hx hb dX8_fittingBeginnings_110 (by decide) (fun c18 => ?_) (fun c18 => ?_)
    · have hf := it_t hf c18
      refine lv_lconst (v := (0 : Int64)) hx hb dX8_fittingBeginnings_118 (by decide) ?_
      have e9 := Option.some.inj hf
      rw [hQ]
      exact W.lret (v := (0 : Int64)) hx hb hr (fun t ht hW => ⟨⟨(0 : Int64), (), rfl, e9, trivial⟩, hS.F ht⟩) hS.2.2 dX8_fittingBeginnings_119
    · have hf := it_f hf c18
      refine lv_lload hx hb dX8_fittingBeginnings_113 (lv_at hl 0 rfl) ?_
      refine lv_goto (tgt := 119) hx hb dX8_fittingBeginnings_115 (by decide) ?_
      have e9 := Option.some.inj hf
      rw [hQ]
      exact W.lret (v := x5) hx hb hr (fun t ht hW => ⟨⟨x5, (), rfl, e9, trivial⟩, hS.F ht⟩) hS.2.2 dX8_fittingBeginnings_119
  have w102 : ∀ (k27 : Int64 → Int64 → Int32 → Int32 → Option Int64), (∀ (x3 : Int64), ∀ (x5 : Int64), ∀ (x7 : Int32), ∀ (x8 : Int32), ∀ (H : Heap) (locs : List Loc) (ls : Array Slot), k27 x3 x5 x7 x8 = some res → va_P D vwCl (wRe K hRe sRe ++ wRo K hRo sRo) H → va_S nOne s.heap H locs → lv_has ls 9 [(0, .ref (hRe 99)), (1, .ref (hRo 99)), (3, .long x3), (5, .long x5), (7, .int x7), (8, .int x8)] → W p l e (headSpec wz_X8_fittingBeginnings r_X8_fittingBeginnings).room s m args below meth c H locs 0 0 Q (F0 m 27 ls [])) → ∀ (x3 : Int64), ∀ (x5 : Int64), ∀ (x7 : Int32), ∀ (x8 : Int32), ∀ (H : Heap) (locs : List Loc) (ls : Array Slot), f_X8_fittingBeginnings_102 F sRe sRo p2 k27 x3 x5 x7 x8 = some res → va_P D vwCl (wRe K hRe sRe ++ wRo K hRo sRo) H → va_S nOne s.heap H locs → lv_has ls 9 [(0, .ref (hRe 99)), (1, .ref (hRo 99)), (3, .long x3), (5, .long x5), (7, .int x7), (8, .int x8)] → W p l e (headSpec wz_X8_fittingBeginnings r_X8_fittingBeginnings).room s m args below meth c H locs 0 0 Q (F0 m 102 ls []) := by
    intro k27 hk27 x3 x5 x7 x8 H locs ls hf hP hS hl
    unfold f_X8_fittingBeginnings_102 at hf
    obtain ⟨v17, ev17⟩ : ∃ z : Int32, z = x8 + (-1 : Int32) := ⟨_, rfl⟩
    have hf := lz_s hf v17 ev17
    refine lv_iinc (v := v17) (lv' := [(8, .int v17), (0, .ref (hRe 99)), (1, .ref (hRo 99)), (3, .long x3), (5, .long x5), (7, .int x7)]) hx hb dX8_fittingBeginnings_102 hl (k := 5) rfl (by rw [ev17]; rfl) (by decide) rfl (fun ls hl => ?_)
    refine lv_goto (tgt := 27) hx hb dX8_fittingBeginnings_105 (by decide) ?_
    exact hk27 x3 x5 x7 v17 H locs ls hf hP hS (lv_sub hl [1, 2, 3, 4, 5, 0] rfl)
  have w70 : ∀ (k27 : Int64 → Int64 → Int32 → Int32 → Option Int64), (∀ (x3 : Int64), ∀ (x5 : Int64), ∀ (x7 : Int32), ∀ (x8 : Int32), ∀ (H : Heap) (locs : List Loc) (ls : Array Slot), k27 x3 x5 x7 x8 = some res → va_P D vwCl (wRe K hRe sRe ++ wRo K hRo sRo) H → va_S nOne s.heap H locs → lv_has ls 9 [(0, .ref (hRe 99)), (1, .ref (hRo 99)), (3, .long x3), (5, .long x5), (7, .int x7), (8, .int x8)] → W p l e (headSpec wz_X8_fittingBeginnings r_X8_fittingBeginnings).room s m args below meth c H locs 0 0 Q (F0 m 27 ls [])) → ∀ (x3 : Int64), ∀ (x5 : Int64), ∀ (x7 : Int32), ∀ (x8 : Int32), ∀ (H : Heap) (locs : List Loc) (ls : Array Slot), f_X8_fittingBeginnings_70 F sRe sRo p2 k27 x3 x5 x7 x8 = some res → va_P D vwCl (wRe K hRe sRe ++ wRo K hRo sRo) H → va_S nOne s.heap H locs → lv_has ls 9 [(0, .ref (hRe 99)), (1, .ref (hRo 99)), (3, .long x3), (5, .long x5), (7, .int x7), (8, .int x8)] → W p l e (headSpec wz_X8_fittingBeginnings r_X8_fittingBeginnings).room s m args below meth c H locs 0 0 Q (F0 m 70 ls []) := by
    intro k27 hk27 x3 x5 x7 x8 H locs ls hf hP hS hl
    unfold f_X8_fittingBeginnings_70 at hf
    refine lv_iload hx hb dX8_fittingBeginnings_70 (lv_at hl 5 rfl) ?_
    refine lv_if_le (tgt := 102) hx hb dX8_fittingBeginnings_72 (by decide) (fun c11 => ?_) (fun c11 => ?_)
    · have hf := it_t hf c11
      exact w102 k27 hk27 x3 x5 x7 x8 H locs ls hf hP hS (lv_sub hl [0, 1, 2, 3, 4, 5] rfl)
    · have hf := it_f hf c11
      refine lv_lload hx hb dX8_fittingBeginnings_75 (lv_at hl 3 rfl) ?_
      refine lv_aload_n hx hb dX8_fittingBeginnings_77 rfl (lv_at hl 1 rfl) ?_
      refine lv_aload_n hx hb dX8_fittingBeginnings_78 rfl (lv_at hl 0 rfl) ?_
      refine va_get (D := D) (ci := 7) (v := .ref (hRe 7)) (C := RX8) (T := TX8) (N := 8) hx hb hts iX8 hown hK hP 0 (rwl o_Re) rfl 7 (by decide) (htl _ (mB5 _ (List.mem_of_getElem? (i := 6) rfl))) (fun _ h9 => h9) rfl dX8_fittingBeginnings_79 ?_
      refine lv_iload hx hb dX8_fittingBeginnings_82 (lv_at hl 5 rfl) ?_
      refine lv_iconst (v := (1 : Int32)) hx hb dX8_fittingBeginnings_84 (by decide) ?_
      refine lv_isub hx hb dX8_fittingBeginnings_85 ?_
      obtain ⟨g12, hf⟩ := gd_s hf
      refine va_iald hx hb hK hP 2 0 (f := sRe.2.2.1 7) (rwl a_Re_7) rfl (vpb_in g12) dX8_fittingBeginnings_86 ?_
      refine lv_topi (fun v13 ev13 => ?_)
      have hf := lz_s hf v13 ev13
      refine lv_aload_n hx hb dX8_fittingBeginnings_87 rfl (lv_at hl 0 rfl) ?_
      refine va_get (D := D) (ci := 7) (v := .ref (hRe 7)) (C := RX8) (T := TX8) (N := 8) hx hb hts iX8 hown hK hP 0 (rwl o_Re) rfl 7 (by decide) (htl _ (mB5 _ (List.mem_of_getElem? (i := 6) rfl))) (fun _ h9 => h9) rfl dX8_fittingBeginnings_88 ?_
      refine lv_iload hx hb dX8_fittingBeginnings_91 (lv_at hl 5 rfl) ?_
      obtain ⟨g14, hf⟩ := gd_s hf
      refine va_iald hx hb hK hP 2 0 (f := sRe.2.2.1 7) (rwl a_Re_7) rfl (vpb_in g14) dX8_fittingBeginnings_93 ?_
      obtain ⟨o15, go15, hf⟩ := bd_s hf
      refine ro_Vi (As := [.int v13, .int (sRe.2.2.1 7 x8.toNatClampNeg)]) (rest := [.long x5]) ⟨hx, hb, hml, hown, hts⟩ (c_X9_pintsOf l D K F hRo sRo v13 (sRe.2.2.1 7 x8.toNatClampNeg) o15 go15) (cwV 2 hts (gcV_X9_pintsOf (mB56 _ (List.mem_of_getElem? (i := 22) rfl))) rfl rfl rfl hdV_X9_pintsOf ⟨Nat.le_of_ble_eq_true rfl, Nat.le_of_ble_eq_true rfl⟩) hK hP hS (va_PL (cs := [wRe K hRe sRe, wRo K hRo sRo]) (cc := [wRo K hRo sRo]) hP (fl2 _ _) [1] rfl (fl1 _)) (va_recv hK hP (ci := 8) (q0 := (3 + 0)) rfl (rwr ln_Re o_Ro)) rfl hl.1 rfl (Nat.le_of_ble_eq_true rfl) dX8_fittingBeginnings_94 ⟨Nat.zero_le _, Nat.zero_le _⟩ (fun H locs hP hS => ?_)
      refine lv_lshl (v := (x5 <<< (o15.toInt64 &&& 63))) hx hb dX8_fittingBeginnings_97 rfl ?_
      refine lv_lload_n hx hb dX8_fittingBeginnings_98 rfl (lv_at hl 2 rfl) ?_
      refine lv_land hx hb dX8_fittingBeginnings_99 ?_
      refine lv_topl (fun v16 ev16 => ?_)
      have hf := lz_s hf v16 ev16
      refine lv_lstore (lv' := [(5, .long v16), (0, .ref (hRe 99)), (1, .ref (hRo 99)), (3, .long x3), (7, .int x7), (8, .int x8)]) hx hb dX8_fittingBeginnings_100 hl (by decide) rfl (fun ls hl => ?_)
      exact w102 k27 hk27 x3 v16 x7 x8 H locs ls hf hP hS (lv_sub hl [1, 2, 3, 0, 4, 5] rfl)
  have w32 : ∀ (k27 : Int64 → Int64 → Int32 → Int32 → Option Int64), (∀ (x3 : Int64), ∀ (x5 : Int64), ∀ (x7 : Int32), ∀ (x8 : Int32), ∀ (H : Heap) (locs : List Loc) (ls : Array Slot), k27 x3 x5 x7 x8 = some res → va_P D vwCl (wRe K hRe sRe ++ wRo K hRo sRo) H → va_S nOne s.heap H locs → lv_has ls 9 [(0, .ref (hRe 99)), (1, .ref (hRo 99)), (3, .long x3), (5, .long x5), (7, .int x7), (8, .int x8)] → W p l e (headSpec wz_X8_fittingBeginnings r_X8_fittingBeginnings).room s m args below meth c H locs 0 0 Q (F0 m 27 ls [])) → ∀ (n : Nat), ∀ (x3 : Int64), ∀ (x5 : Int64), ∀ (x7 : Int32), ∀ (x8 : Int32), ∀ (H : Heap) (locs : List Loc) (ls : Array Slot), f_X8_fittingBeginnings_32 F sRe sRo p2 k27 n x3 x5 x7 x8 = some res → va_P D vwCl (wRe K hRe sRe ++ wRo K hRo sRo) H → va_S nOne s.heap H locs → lv_has ls 9 [(0, .ref (hRe 99)), (1, .ref (hRo 99)), (3, .long x3), (5, .long x5), (7, .int x7), (8, .int x8)] → W p l e (headSpec wz_X8_fittingBeginnings r_X8_fittingBeginnings).room s m args below meth c H locs 0 0 Q (F0 m 32 ls []) := by
    intro k27 hk27 n
    induction n with
    | zero =>
      intro x3 x5 x7 x8 H locs ls hf
      exact absurd (show none = some res from hf) (fun h => nomatch h)
    | succ n ih =>
      intro x3 x5 x7 x8 H locs ls hf hP hS hl
      rw [f_X8_fittingBeginnings_32] at hf
      refine lv_iload hx hb dX8_fittingBeginnings_32 (lv_at hl 4 rfl) ?_
      refine lv_if_lt (tgt := 70) hx hb dX8_fittingBeginnings_34 (by decide) (fun c4 => ?_) (fun c4 => ?_)
      · have hf := it_t hf c4
        exact w70 k27 hk27 x3 x5 x7 x8 H locs ls hf hP hS (lv_sub hl [0, 1, 2, 3, 4, 5] rfl)
      · have hf := it_f hf c4
        refine lv_aload_n hx hb dX8_fittingBeginnings_37 rfl (lv_at hl 1 rfl) ?_
        refine va_get (D := D) (ci := 8) (v := .ref (hRo 17)) (C := RX9) (T := TX9) (N := 19) hx hb hts iX9 hown hK hP (3 + 0) (rwr ln_Re o_Ro) rfl 17 (by decide) (htl _ (mB56 _ (List.mem_of_getElem? (i := 12) rfl))) (fun _ h9 => h9) rfl dX8_fittingBeginnings_38 ?_
        refine lv_iload hx hb dX8_fittingBeginnings_41 (lv_at hl 4 rfl) ?_
        obtain ⟨g5, hf⟩ := gd_s hf
        refine va_iald hx hb hK hP (3 + 8) 0 (f := sRo.2.2.1 17) (rwr ln_Re a_Ro_17) rfl (vpb_in g5) dX8_fittingBeginnings_43 ?_
        refine lv_topi (fun v6 ev6 => ?_)
        have hf := lz_s hf v6 ev6
        refine lv_aload_n hx hb dX8_fittingBeginnings_44 rfl (lv_at hl 0 rfl) ?_
        refine va_get (D := D) (ci := 7) (v := .ref (hRe 7)) (C := RX8) (T := TX8) (N := 8) hx hb hts iX8 hown hK hP 0 (rwl o_Re) rfl 7 (by decide) (htl _ (mB5 _ (List.mem_of_getElem? (i := 6) rfl))) (fun _ h9 => h9) rfl dX8_fittingBeginnings_45 ?_
        refine lv_iload hx hb dX8_fittingBeginnings_48 (lv_at hl 5 rfl) ?_
        obtain ⟨g7, hf⟩ := gd_s hf
        refine va_iald hx hb hK hP 2 0 (f := sRe.2.2.1 7) (rwl a_Re_7) rfl (vpb_in g7) dX8_fittingBeginnings_50 ?_
        refine lv_icmp_ne (tgt := 70) hx hb dX8_fittingBeginnings_51 (by decide) (fun c8 => ?_) (fun c8 => ?_)
        · have hf := it_f hf c8
          exact w70 k27 hk27 x3 x5 x7 x8 H locs ls hf hP hS (lv_sub hl [0, 1, 2, 3, 4, 5] rfl)
        · have hf := it_t hf c8
          refine lv_aload_n hx hb dX8_fittingBeginnings_54 rfl (lv_at hl 1 rfl) ?_
          refine lv_iload hx hb dX8_fittingBeginnings_55 (lv_at hl 4 rfl) ?_
          refine lv_lload hx hb dX8_fittingBeginnings_57 (lv_at hl 3 rfl) ?_
          obtain ⟨o9, go9, hf⟩ := bd_s hf
          refine ro_Sl (As := [.ref (hRo 99), .int x7, .long x5]) (rest := []) ⟨hx, hb, hml, hown, hts⟩ (c_X8_beforeReceipt l D K F hRo sRo x7 x5 o9 go9) (va_cwS 3 hts (gcS_X8_beforeReceipt (mB56 _ (List.mem_of_getElem? (i := 13) rfl))) rfl rfl rfl hdS_X8_beforeReceipt ⟨Nat.le_of_ble_eq_true rfl, Nat.le_of_ble_eq_true rfl⟩) hK hP hS (va_PL (cs := [wRe K hRe sRe, wRo K hRo sRo]) (cc := [wRo K hRo sRo]) hP (fl2 _ _) [1] rfl (fl1 _)) rfl hl.1 rfl (Nat.le_of_ble_eq_true rfl) dX8_fittingBeginnings_59 ⟨Nat.zero_le _, Nat.zero_le _⟩ (fun H locs hP hS => ?_)
          refine lv_lstore (lv' := [(5, .long o9), (0, .ref (hRe 99)), (1, .ref (hRo 99)), (3, .long x3), (7, .int x7), (8, .int x8)]) hx hb dX8_fittingBeginnings_62 hl (by decide) rfl (fun ls hl => ?_)
          obtain ⟨v10, ev10⟩ : ∃ z : Int32, z = x7 + (-1 : Int32) := ⟨_, rfl⟩
          have hf := lz_s hf v10 ev10
          refine lv_iinc (v := v10) (lv' := [(7, .int v10), (5, .long o9), (0, .ref (hRe 99)), (1, .ref (hRo 99)), (3, .long x3), (8, .int x8)]) hx hb dX8_fittingBeginnings_64 hl (k := 4) rfl (by rw [ev10]; rfl) (by decide) rfl (fun ls hl => ?_)
          refine lv_goto (tgt := 32) hx hb dX8_fittingBeginnings_67 (by decide) ?_
          exact ih x3 o9 v10 x8 H locs ls hf hP hS (lv_sub hl [2, 3, 4, 1, 0, 5] rfl)
  have w27 : ∀ (n : Nat), ∀ (x3 : Int64), ∀ (x5 : Int64), ∀ (x7 : Int32), ∀ (x8 : Int32), ∀ (H : Heap) (locs : List Loc) (ls : Array Slot), f_X8_fittingBeginnings_27 F sRe sRo p2 n x3 x5 x7 x8 = some res → va_P D vwCl (wRe K hRe sRe ++ wRo K hRo sRo) H → va_S nOne s.heap H locs → lv_has ls 9 [(0, .ref (hRe 99)), (1, .ref (hRo 99)), (3, .long x3), (5, .long x5), (7, .int x7), (8, .int x8)] → W p l e (headSpec wz_X8_fittingBeginnings r_X8_fittingBeginnings).room s m args below meth c H locs 0 0 Q (F0 m 27 ls []) := by
    intro n
    induction n with
    | zero =>
      intro x3 x5 x7 x8 H locs ls hf
      exact absurd (show none = some res from hf) (fun h => nomatch h)
    | succ n ih =>
      intro x3 x5 x7 x8 H locs ls hf hP hS hl
      rw [f_X8_fittingBeginnings_27] at hf
      refine lv_iload hx hb dX8_fittingBeginnings_27 (lv_at hl 5 rfl) ?_
      refine lv_if_lt (tgt := 108) hx hb dX8_fittingBeginnings_29 (by decide) (fun c3 => ?_) (fun c3 => ?_)
      · have hf := it_t hf c3
        exact w108 x5 x7 H locs ls hf hP hS (lv_sub hl [3, 4] rfl)
      · have hf := it_f hf c3
        exact w32 (f_X8_fittingBeginnings_27 F sRe sRo p2 n) ih F x3 x5 x7 x8 H locs ls hf hP hS (lv_sub hl [0, 1, 2, 3, 4, 5] rfl)
  have hen : entryFrame m args 9 = entryFrame m (([.ref (hRe 99), .ref (hRo 99), .int p2] : List Value).toArray) 9 := by rw [hargs]
  have hl := lv_entry ([.ref (hRe 99), .ref (hRo 99), .int p2]) (n := 9) (Nat.le_of_ble_eq_true rfl)
  rw [hen, lg_entry_eq]
  generalize (lg_sl ([.ref (hRe 99), .ref (hRo 99), .int p2]) ++ List.replicate (9 - (lg_sl ([.ref (hRe 99), .ref (hRo 99), .int p2])).length) Slot.unset).toArray = ls at hl ⊢
  have hl : lv_has ls 9 [(0, .ref (hRe 99)), (1, .ref (hRo 99)), (2, .int p2)] := hl
  unfold f_X8_fittingBeginnings at hf
  obtain ⟨H, hHe⟩ : ∃ z, z = s.heap := ⟨_, rfl⟩
  obtain ⟨locs, hLe⟩ : ∃ z : List Loc, z = [] := ⟨_, rfl⟩
  rw [← hLe]
  have hS : va_S nOne s.heap H locs := by rw [hHe, hLe]; exact hS
  have hP : va_P D vwCl (wRe K hRe sRe ++ wRo K hRo sRo) H := by rw [hHe]; exact hP
  have hgo : W p l e (headSpec wz_X8_fittingBeginnings r_X8_fittingBeginnings).room s m args below meth c H locs 0 0 Q (F0 m 0 ls []) := by
    refine lv_lconst (v := (1 : Int64)) hx hb dX8_fittingBeginnings_0 (by decide) ?_
    refine lv_aload_n hx hb dX8_fittingBeginnings_1 rfl (lv_at hl 1 rfl) ?_
    refine va_get (D := D) (ci := 8) (v := .int (sRo.1 0)) (C := RX9) (T := TX9) (N := 19) hx hb hts iX9 hown hK hP (3 + 0) (rwr ln_Re o_Ro) rfl 0 (by decide) (htl _ (mB56 _ (List.mem_of_getElem? (i := 10) rfl))) (fun _ h9 => h9) rfl dX8_fittingBeginnings_2 ?_
    refine lv_iconst (v := (1 : Int32)) hx hb dX8_fittingBeginnings_5 (by decide) ?_
    refine lv_iadd hx hb dX8_fittingBeginnings_6 ?_
    refine lv_lshl (v := ((1 : Int64) <<< (((sRo.1 0) + (1 : Int32)).toInt64 &&& 63))) hx hb dX8_fittingBeginnings_7 rfl ?_
    refine lv_topl (fun v1 ev1 => ?_)
    have hf := lz_s hf v1 ev1
    refine lv_lconst (v := (1 : Int64)) hx hb dX8_fittingBeginnings_8 (by decide) ?_
    refine lv_lsub hx hb dX8_fittingBeginnings_9 ?_
    refine lv_lstore_n (lv' := [(3, .long (v1 - (1 : Int64))), (0, .ref (hRe 99)), (1, .ref (hRo 99)), (2, .int p2)]) hx hb dX8_fittingBeginnings_10 rfl hl (by decide) rfl (fun ls hl => ?_)
    refine lv_lload_n hx hb dX8_fittingBeginnings_11 rfl (lv_at hl 0 rfl) ?_
    refine lv_lstore (lv' := [(5, .long (v1 - (1 : Int64))), (3, .long (v1 - (1 : Int64))), (0, .ref (hRe 99)), (1, .ref (hRo 99)), (2, .int p2)]) hx hb dX8_fittingBeginnings_12 hl (by decide) rfl (fun ls hl => ?_)
    refine lv_aload_n hx hb dX8_fittingBeginnings_14 rfl (lv_at hl 3 rfl) ?_
    refine va_get (D := D) (ci := 8) (v := .int (sRo.1 9)) (C := RX9) (T := TX9) (N := 19) hx hb hts iX9 hown hK hP (3 + 0) (rwr ln_Re o_Ro) rfl 9 (by decide) (htl _ (mB56 _ (List.mem_of_getElem? (i := 11) rfl))) (fun _ h9 => h9) rfl dX8_fittingBeginnings_15 ?_
    refine lv_iconst (v := (1 : Int32)) hx hb dX8_fittingBeginnings_18 (by decide) ?_
    refine lv_isub hx hb dX8_fittingBeginnings_19 ?_
    refine lv_topi (fun v2 ev2 => ?_)
    have hf := lz_s hf v2 ev2
    refine lv_istore (lv' := [(7, .int v2), (5, .long (v1 - (1 : Int64))), (3, .long (v1 - (1 : Int64))), (0, .ref (hRe 99)), (1, .ref (hRo 99)), (2, .int p2)]) hx hb dX8_fittingBeginnings_20 hl (by decide) rfl (fun ls hl => ?_)
    refine lv_iload_n hx hb dX8_fittingBeginnings_22 rfl (lv_at hl 5 rfl) ?_
    refine lv_iconst (v := (1 : Int32)) hx hb dX8_fittingBeginnings_23 (by decide) ?_
    refine lv_isub hx hb dX8_fittingBeginnings_24 ?_
    refine lv_istore (lv' := [(8, .int (p2 - (1 : Int32))), (7, .int v2), (5, .long (v1 - (1 : Int64))), (3, .long (v1 - (1 : Int64))), (0, .ref (hRe 99)), (1, .ref (hRo 99)), (2, .int p2)]) hx hb dX8_fittingBeginnings_25 hl (by decide) rfl (fun ls hl => ?_)
    exact w27 F (v1 - (1 : Int64)) (v1 - (1 : Int64)) v2 (p2 - (1 : Int32)) H locs ls hf hP hS (lv_sub hl [4, 5, 3, 2, 1, 0] rfl)
  rw [hHe] at hgo
  exact hgo

theorem gcV_X8_fittingBeginnings {T0 : Cond} {own : String} {i : Nat} (h : Cond.methodLink own i yX8_fittingBeginnings ∈ wsL_law) : GoodIn (T0 :: wsL_law) (wsV own i RX8 yX8_fittingBeginnings wz_X8_fittingBeginnings) := gV h (mB56 _ (List.mem_of_getElem? (i := 7) rfl)) (mB56 _ (List.mem_of_getElem? (i := 8) rfl)) (mB2 _ (List.mem_of_getElem? (i := 14) rfl)) (mB56 _ (List.mem_of_getElem? (i := 9) rfl))
theorem hdV_X8_fittingBeginnings : yX8_fittingBeginnings.cls = RX8 ∧ yX8_fittingBeginnings.cls ≠ "java/lang/invoke/MethodHandle" ∧ yX8_fittingBeginnings.cls ≠ "java/lang/invoke/VarHandle" ∧ (parseMethodDescriptor yX8_fittingBeginnings.desc).map (fun d => d.parameters.length) = some 2 := by decide +kernel
def wz_X8_weigh : List Cond := .code yX8_weigh cX8_weigh 6 none :: wsL_law
abbrev r_X8_weigh : Room := { frames := 3, cells := 0, slots := 0, locals := 77 }
set_option maxHeartbeats 4000000 in
set_option maxRecDepth 100000 in
theorem c_X8_weigh (l : Launch) (D : va_G) (K : Nat → ClassId) (F : Nat) (hRe : Nat → Nat) (hRo : Nat → Nat) (sz : Nat) (sRe : MS) (sRo : MS) (p2 : Int32) (p3 : Int32) (res : MS) (hf : f_X8_weigh F sRo p2 p3 sRe = some res) : Met l yX8_weigh wz_X8_weigh r_X8_weigh (va_Pc [.ref (hRe 99), .ref (hRo 99), .int p2, .int p3] (PW D K (wRe K hRe sRe ++ wRo K hRo sRo) sz)) (va_Qv (fun u => u = res) (fun u t => BW D K (va_A (wRe K hRe sRe ++ wRo K hRo sRo) sz) (wRe K hRe u ++ wRo K hRo sRo) t) (va_A (wRe K hRe sRe ++ wRo K hRo sRo) sz)) 0 0 (va_A (wRe K hRe sRe ++ wRo K hRo sRo) sz) := by
  refine Met.ofW (cc := cX8_weigh) (maxL := 6) (ret := none) (by decide) rfl ?_
  intro p e s m args below meth c s₁ B hml hv
  obtain ⟨hargs, hsz, hP, hK, hD0⟩ := hv
  have hx := B.exec
  have hb := B.bytes
  have hr := B.returns
  have hts := atoms_spec (ws := wz_X8_weigh) B.pre
  have htl : ∀ w ∈ wsL_law, w.before args s = true := fun w h => hts w (List.mem_cons_of_mem _ h)
  have hown : s.vm.findClass RX8 = some m.cls := findClass_of_methodNamed B.named
  have hlocks := B.notSynchronized
  subst hsz
  have hD := hD0.self (sz := s.heap.size)
  generalize hAe : va_A (wRe K hRe sRe ++ wRo K hRo sRo) s.heap.size = A at hD ⊢
  have hA : ∀ q : Nat, s.heap.size ≤ q → A q := fun q h => by rw [← hAe]; exact Or.inr h
  have hS : va_S A s.heap s.heap [] := va_S.rf
  have iX8 : ∀ w ∈ wsX80, w ∈ wz_X8_weigh := fun w h => List.mem_cons_of_mem _ (inlX8 w h)
  have iX9 : ∀ w ∈ wsX90, w ∈ wz_X8_weigh := fun w h => List.mem_cons_of_mem _ (inlX9 w h)
  suffices hgo : ∀ Q : State → Prop, Q = MQ below (va_Qv (fun u => u = res) (fun u t => BW D K A (wRe K hRe u ++ wRo K hRo sRo) t) A) args s 0 0 A → W p l e (headSpec wz_X8_weigh r_X8_weigh).room s m args below meth c s.heap [] 0 0 Q (entryFrame m args 6) from hgo _ rfl
  intro Q hQ
  have w82 : ∀ (y1 : Int32), ∀ (sRe : MS), ∀ (H : Heap) (locs : List Loc) (ls : Array Slot), f_X8_weigh_82 F sRo p2 p3 y1 sRe = some res → va_P D vwCl (wRe K hRe sRe ++ wRo K hRo sRo) H → va_D A (wRe K hRe sRe ++ wRo K hRo sRo) → va_S A s.heap H locs → lv_has ls 6 [(0, .ref (hRe 99)), (3, .int p3)] → W p l e (headSpec wz_X8_weigh r_X8_weigh).room s m args below meth c H locs 0 0 Q (F0 m 82 ls [.int y1, .ref (hRe 99)]) := by
    intro y1 sRe H locs ls hf hP hD hS hl
    unfold f_X8_weigh_82 at hf
    refine va_put (D := D) (ci := 7) (v := .int y1) (ty := .int) (C := RX8) (T := TX8) (N := 8) hx hb hts iX8 tyX8 tyX8_ok nmX8 hown hK hP hD hS 0 (rwl o_Re) rfl 2 (by decide) (htl _ (mB55 _ (List.mem_of_getElem? (i := 10) rfl))) (fun _ h9 => h9) rfl (by decide +kernel) rfl rfl (Nat.le_of_ble_eq_true rfl) dX8_weigh_82 (fun H locs hP hD hS => ?_)
    have hP := cvP (stl si_Re_2 (rlt o_Re)) hP
    have hD := cvD (stl si_Re_2 (rlt o_Re)) hD
    obtain ⟨s10, es10⟩ : ∃ z, z = sI sRe 2 y1 := ⟨_, rfl⟩
    have hP : va_P D vwCl (wRe K hRe s10 ++ wRo K hRo sRo) H := by rw [es10]; exact hP
    have hD : va_D A (wRe K hRe s10 ++ wRo K hRo sRo) := by rw [es10]; exact hD
    have hf := lz_s hf s10 es10
    refine lv_aload_n hx hb dX8_weigh_85 rfl (lv_at hl 0 rfl) ?_
    refine lv_dup hx hb dX8_weigh_86 rfl ?_
    refine va_get (D := D) (ci := 7) (v := .int (s10.1 1)) (C := RX8) (T := TX8) (N := 8) hx hb hts iX8 hown hK hP 0 (rwl o_Re) rfl 1 (by decide) (htl _ (mB55 _ (List.mem_of_getElem? (i := 9) rfl))) (fun _ h9 => h9) rfl dX8_weigh_87 ?_
    refine lv_iload_n hx hb dX8_weigh_90 rfl (lv_at hl 1 rfl) ?_
    refine lv_ior hx hb dX8_weigh_91 ?_
    refine va_put (D := D) (ci := 7) (v := .int ((s10.1 1) ||| p3)) (ty := .int) (C := RX8) (T := TX8) (N := 8) hx hb hts iX8 tyX8 tyX8_ok nmX8 hown hK hP hD hS 0 (rwl o_Re) rfl 1 (by decide) (htl _ (mB55 _ (List.mem_of_getElem? (i := 9) rfl))) (fun _ h9 => h9) rfl (by decide +kernel) rfl rfl (Nat.le_of_ble_eq_true rfl) dX8_weigh_92 (fun H locs hP hD hS => ?_)
    have hP := cvP (stl si_Re_1 (rlt o_Re)) hP
    have hD := cvD (stl si_Re_1 (rlt o_Re)) hD
    obtain ⟨s11, es11⟩ : ∃ z, z = sI s10 1 ((s10.1 1) ||| p3) := ⟨_, rfl⟩
    have hP : va_P D vwCl (wRe K hRe s11 ++ wRo K hRo sRo) H := by rw [es11]; exact hP
    have hD : va_D A (wRe K hRe s11 ++ wRo K hRo sRo) := by rw [es11]; exact hD
    have hf := lz_s hf s11 es11
    refine lv_aload_n hx hb dX8_weigh_95 rfl (lv_at hl 0 rfl) ?_
    refine lv_dup hx hb dX8_weigh_96 rfl ?_
    refine va_get (D := D) (ci := 7) (v := .int (s11.1 0)) (C := RX8) (T := TX8) (N := 8) hx hb hts iX8 hown hK hP 0 (rwl o_Re) rfl 0 (by decide) (htl _ (mB55 _ (List.mem_of_getElem? (i := 8) rfl))) (fun _ h9 => h9) rfl dX8_weigh_97 ?_
    refine lv_iconst (v := (1 : Int32)) hx hb dX8_weigh_100 (by decide) ?_
    refine lv_iadd hx hb dX8_weigh_101 ?_
    refine lv_topi (fun v12 ev12 => ?_)
    have hf := lz_s hf v12 ev12
    refine va_put (D := D) (ci := 7) (v := .int v12) (ty := .int) (C := RX8) (T := TX8) (N := 8) hx hb hts iX8 tyX8 tyX8_ok nmX8 hown hK hP hD hS 0 (rwl o_Re) rfl 0 (by decide) (htl _ (mB55 _ (List.mem_of_getElem? (i := 8) rfl))) (fun _ h9 => h9) rfl (by decide +kernel) rfl rfl (Nat.le_of_ble_eq_true rfl) dX8_weigh_102 (fun H locs hP hD hS => ?_)
    have hP := cvP (stl si_Re_0 (rlt o_Re)) hP
    have hD := cvD (stl si_Re_0 (rlt o_Re)) hD
    obtain ⟨s13, es13⟩ : ∃ z, z = sI s11 0 v12 := ⟨_, rfl⟩
    have hP : va_P D vwCl (wRe K hRe s13 ++ wRo K hRo sRo) H := by rw [es13]; exact hP
    have hD : va_D A (wRe K hRe s13 ++ wRo K hRo sRo) := by rw [es13]; exact hD
    have hf := lz_s hf s13 es13
    have e9 := Option.some.inj hf
    rw [hQ]
    exact W.vret hx hb hr (fun t ht hW => ⟨⟨s13, rfl, e9, ⟨by rw [ht]; exact hP, va_K.moved hW.alike hK, hD⟩⟩, hS.F ht⟩) hS.2.2 dX8_weigh_105
  have w64 : ∀ (sRe : MS), ∀ (H : Heap) (locs : List Loc) (ls : Array Slot), f_X8_weigh_64 F sRo p2 p3 sRe = some res → va_P D vwCl (wRe K hRe sRe ++ wRo K hRo sRo) H → va_D A (wRe K hRe sRe ++ wRo K hRo sRo) → va_S A s.heap H locs → lv_has ls 6 [(0, .ref (hRe 99)), (3, .int p3)] → W p l e (headSpec wz_X8_weigh r_X8_weigh).room s m args below meth c H locs 0 0 Q (F0 m 64 ls []) := by
    intro sRe H locs ls hf hP hD hS hl
    unfold f_X8_weigh_64 at hf
    refine lv_aload_n hx hb dX8_weigh_64 rfl (lv_at hl 0 rfl) ?_
    refine lv_aload_n hx hb dX8_weigh_65 rfl (lv_at hl 0 rfl) ?_
    refine va_get (D := D) (ci := 7) (v := .int (sRe.1 0)) (C := RX8) (T := TX8) (N := 8) hx hb hts iX8 hown hK hP 0 (rwl o_Re) rfl 0 (by decide) (htl _ (mB55 _ (List.mem_of_getElem? (i := 8) rfl))) (fun _ h9 => h9) rfl dX8_weigh_66 ?_
    refine lv_if_ne (tgt := 76) hx hb dX8_weigh_69 (by decide) (fun c9 => ?_) (fun c9 => ?_)
    · have hf := it_f hf c9
      refine lv_aload_n hx hb dX8_weigh_76 rfl (lv_at hl 0 rfl) ?_
      refine va_get (D := D) (ci := 7) (v := .int (sRe.1 2)) (C := RX8) (T := TX8) (N := 8) hx hb hts iX8 hown hK hP 0 (rwl o_Re) rfl 2 (by decide) (htl _ (mB55 _ (List.mem_of_getElem? (i := 10) rfl))) (fun _ h9 => h9) rfl dX8_weigh_77 ?_
      refine lv_iload_n hx hb dX8_weigh_80 rfl (lv_at hl 1 rfl) ?_
      refine lv_iand hx hb dX8_weigh_81 ?_
      exact w82 ((sRe.1 2) &&& p3) sRe H locs ls hf hP hD hS (lv_sub hl [0, 1] rfl)
    · have hf := it_t hf c9
      refine lv_iload_n hx hb dX8_weigh_72 rfl (lv_at hl 1 rfl) ?_
      refine lv_goto (tgt := 82) hx hb dX8_weigh_73 (by decide) ?_
      exact w82 p3 sRe H locs ls hf hP hD hS (lv_sub hl [0, 1] rfl)
  have hen : entryFrame m args 6 = entryFrame m (([.ref (hRe 99), .ref (hRo 99), .int p2, .int p3] : List Value).toArray) 6 := by rw [hargs]
  have hl := lv_entry ([.ref (hRe 99), .ref (hRo 99), .int p2, .int p3]) (n := 6) (Nat.le_of_ble_eq_true rfl)
  rw [hen, lg_entry_eq]
  generalize (lg_sl ([.ref (hRe 99), .ref (hRo 99), .int p2, .int p3]) ++ List.replicate (6 - (lg_sl ([.ref (hRe 99), .ref (hRo 99), .int p2, .int p3])).length) Slot.unset).toArray = ls at hl ⊢
  have hl : lv_has ls 6 [(0, .ref (hRe 99)), (1, .ref (hRo 99)), (2, .int p2), (3, .int p3)] := hl
  unfold f_X8_weigh at hf
  obtain ⟨H, hHe⟩ : ∃ z, z = s.heap := ⟨_, rfl⟩
  obtain ⟨locs, hLe⟩ : ∃ z : List Loc, z = [] := ⟨_, rfl⟩
  rw [← hLe]
  have hS : va_S A s.heap H locs := by rw [hHe, hLe]; exact hS
  have hP : va_P D vwCl (wRe K hRe sRe ++ wRo K hRo sRo) H := by rw [hHe]; exact hP
  have hgo : W p l e (headSpec wz_X8_weigh r_X8_weigh).room s m args below meth c H locs 0 0 Q (F0 m 0 ls []) := by
    refine lv_aload_n hx hb dX8_weigh_0 rfl (lv_at hl 0 rfl) ?_
    refine lv_aload_n hx hb dX8_weigh_1 rfl (lv_at hl 1 rfl) ?_
    refine lv_iload_n hx hb dX8_weigh_2 rfl (lv_at hl 2 rfl) ?_
    obtain ⟨o1, go1, hf⟩ := bd_s hf
    refine ro_Vl (As := [.ref (hRo 99), .int p2]) (rest := []) ⟨hx, hb, hml, hown, hts⟩ (c_X8_fittingBeginnings l D K F hRe hRo sRe sRo p2 o1 go1) (cwV 2 hts (gcV_X8_fittingBeginnings (mB56 _ (List.mem_of_getElem? (i := 6) rfl))) rfl rfl rfl hdV_X8_fittingBeginnings ⟨Nat.le_of_ble_eq_true rfl, Nat.le_of_ble_eq_true rfl⟩) hK hP hS hP (va_recv hK hP (ci := 7) (q0 := 0) rfl (rwl o_Re)) rfl hl.1 rfl (Nat.le_of_ble_eq_true rfl) dX8_weigh_3 ⟨Nat.zero_le _, Nat.zero_le _⟩ (fun H locs hP hS => ?_)
    refine lv_lstore (lv' := [(4, .long o1), (0, .ref (hRe 99)), (1, .ref (hRo 99)), (2, .int p2), (3, .int p3)]) hx hb dX8_weigh_6 hl (by decide) rfl (fun ls hl => ?_)
    refine lv_aload_n hx hb dX8_weigh_8 rfl (lv_at hl 1 rfl) ?_
    refine lv_dup hx hb dX8_weigh_9 rfl ?_
    refine va_get (D := D) (ci := 7) (v := .long (sRe.2.1 3)) (C := RX8) (T := TX8) (N := 8) hx hb hts iX8 hown hK hP 0 (rwl o_Re) rfl 3 (by decide) (htl _ (mB55 _ (List.mem_of_getElem? (i := 11) rfl))) (fun _ h9 => h9) rfl dX8_weigh_10 ?_
    refine lv_lload hx hb dX8_weigh_13 (lv_at hl 0 rfl) ?_
    refine lv_lor hx hb dX8_weigh_15 ?_
    refine va_put (D := D) (ci := 7) (v := .long ((sRe.2.1 3) ||| o1)) (ty := .long) (C := RX8) (T := TX8) (N := 8) hx hb hts iX8 tyX8 tyX8_ok nmX8 hown hK hP hD hS 0 (rwl o_Re) rfl 3 (by decide) (htl _ (mB55 _ (List.mem_of_getElem? (i := 11) rfl))) (fun _ h9 => h9) rfl (by decide +kernel) rfl rfl (Nat.le_of_ble_eq_true rfl) dX8_weigh_16 (fun H locs hP hD hS => ?_)
    have hP := cvP (stl si_Re_3 (rlt o_Re)) hP
    have hD := cvD (stl si_Re_3 (rlt o_Re)) hD
    obtain ⟨s2, es2⟩ : ∃ z, z = sL sRe 3 ((sRe.2.1 3) ||| o1) := ⟨_, rfl⟩
    have hP : va_P D vwCl (wRe K hRe s2 ++ wRo K hRo sRo) H := by rw [es2]; exact hP
    have hD : va_D A (wRe K hRe s2 ++ wRo K hRo sRo) := by rw [es2]; exact hD
    have hf := lz_s hf s2 es2
    refine lv_lload hx hb dX8_weigh_19 (lv_at hl 0 rfl) ?_
    refine lv_aload_n hx hb dX8_weigh_21 rfl (lv_at hl 2 rfl) ?_
    refine va_get (D := D) (ci := 8) (v := .int (sRo.1 1)) (C := RX9) (T := TX9) (N := 19) hx hb hts iX9 hown hK hP (3 + 0) (rwr ln_Re o_Ro) rfl 1 (by decide) (htl _ (mB56 _ (List.mem_of_getElem? (i := 1) rfl))) (fun _ h9 => h9) rfl dX8_weigh_22 ?_
    refine lv_lshr (v := (o1 >>> ((sRo.1 1).toInt64 &&& 63))) hx hb dX8_weigh_25 rfl ?_
    refine lv_lconst (v := (1 : Int64)) hx hb dX8_weigh_26 (by decide) ?_
    refine lv_land hx hb dX8_weigh_27 ?_
    refine lv_topl (fun v3 ev3 => ?_)
    have hf := lz_s hf v3 ev3
    refine lv_lconst (v := (0 : Int64)) hx hb dX8_weigh_28 (by decide) ?_
    refine W.lcmp hx hb dX8_weigh_29 ?_
    refine lv_if_ne (tgt := 34) hx hb dX8_weigh_30 (by decide) (fun c4 => ?_) (fun c4 => ?_)
    · have hf := it_f hf c4
      refine lv_aload_n hx hb dX8_weigh_34 rfl (lv_at hl 1 rfl) ?_
      refine va_get (D := D) (ci := 7) (v := .int (s2.1 0)) (C := RX8) (T := TX8) (N := 8) hx hb hts iX8 hown hK hP 0 (rwl o_Re) rfl 0 (by decide) (htl _ (mB55 _ (List.mem_of_getElem? (i := 8) rfl))) (fun _ h9 => h9) rfl dX8_weigh_35 ?_
      refine lv_aload_n hx hb dX8_weigh_38 rfl (lv_at hl 1 rfl) ?_
      refine va_get (D := D) (ci := 7) (v := .int (s2.1 6)) (C := RX8) (T := TX8) (N := 8) hx hb hts iX8 hown hK hP 0 (rwl o_Re) rfl 6 (by decide) (htl _ (mB55 _ (List.mem_of_getElem? (i := 13) rfl))) (fun _ h9 => h9) rfl dX8_weigh_39 ?_
      refine lv_icmp_ne (tgt := 64) hx hb dX8_weigh_42 (by decide) (fun c5 => ?_) (fun c5 => ?_)
      · have hf := it_f hf c5
        exact w64 s2 H locs ls hf hP hD hS (lv_sub hl [1, 4] rfl)
      · have hf := it_t hf c5
        refine lv_aload_n hx hb dX8_weigh_45 rfl (lv_at hl 1 rfl) ?_
        refine va_get (D := D) (ci := 7) (v := .ref (hRe 7)) (C := RX8) (T := TX8) (N := 8) hx hb hts iX8 hown hK hP 0 (rwl o_Re) rfl 7 (by decide) (htl _ (mB5 _ (List.mem_of_getElem? (i := 6) rfl))) (fun _ h9 => h9) rfl dX8_weigh_46 ?_
        refine lv_iconst (v := (0 : Int32)) hx hb dX8_weigh_49 (by decide) ?_
        refine lv_aload_n hx hb dX8_weigh_50 rfl (lv_at hl 1 rfl) ?_
        refine va_get (D := D) (ci := 7) (v := .ref (hRe 4)) (C := RX8) (T := TX8) (N := 8) hx hb hts iX8 hown hK hP 0 (rwl o_Re) rfl 4 (by decide) (htl _ (mB5 _ (List.mem_of_getElem? (i := 5) rfl))) (fun _ h9 => h9) rfl dX8_weigh_51 ?_
        refine lv_iconst (v := (0 : Int32)) hx hb dX8_weigh_54 (by decide) ?_
        refine lv_iload_n hx hb dX8_weigh_55 rfl (lv_at hl 3 rfl) ?_
        obtain ⟨g6, hf⟩ := gd_s hf
        refine va_copyi hx hb (hml.trans hl.1.symm) hown (htl _ (mB56 _ (List.mem_of_getElem? (i := 2) rfl))) (htl _ (mB56 _ (List.mem_of_getElem? (i := 3) rfl))) (htl _ (mB56 _ (List.mem_of_getElem? (i := 4) rfl))) (htl _ (mB56 _ (List.mem_of_getElem? (i := 5) rfl))) hK hP hD hS 2 1 0 0 (f := s2.2.2.1 7) (g := s2.2.2.1 4) (rwl a_Re_7) (rwl a_Re_4) rfl rfl rfl (by decide) (by decide) (vpb_nn g6) (vpb_le g6) (vpb_le g6) (fun _ _ => rfl) (Nat.le_of_ble_eq_true rfl) (Nat.le_of_ble_eq_true rfl) dX8_weigh_56 (fun H locs hP hD hS => ?_)
        have hP := cvP (stl sa_Re_4 (rlt a_Re_4)) hP
        have hD := cvD (stl sa_Re_4 (rlt a_Re_4)) hD
        obtain ⟨s7, es7⟩ : ∃ z, z = wA s2 4 (va_cpy (s2.2.2.1 7) (s2.2.2.1 4) (0 : Int32).toNatClampNeg (0 : Int32).toNatClampNeg p2.toNatClampNeg) := ⟨_, rfl⟩
        have hP : va_P D vwCl (wRe K hRe s7 ++ wRo K hRo sRo) H := by rw [es7]; exact hP
        have hD : va_D A (wRe K hRe s7 ++ wRo K hRo sRo) := by rw [es7]; exact hD
        have hf := lz_s hf s7 es7
        refine lv_aload_n hx hb dX8_weigh_59 rfl (lv_at hl 1 rfl) ?_
        refine lv_iload_n hx hb dX8_weigh_60 rfl (lv_at hl 3 rfl) ?_
        refine va_put (D := D) (ci := 7) (v := .int p2) (ty := .int) (C := RX8) (T := TX8) (N := 8) hx hb hts iX8 tyX8 tyX8_ok nmX8 hown hK hP hD hS 0 (rwl o_Re) rfl 5 (by decide) (htl _ (mB55 _ (List.mem_of_getElem? (i := 12) rfl))) (fun _ h9 => h9) rfl (by decide +kernel) rfl rfl (Nat.le_of_ble_eq_true rfl) dX8_weigh_61 (fun H locs hP hD hS => ?_)
        have hP := cvP (stl si_Re_5 (rlt o_Re)) hP
        have hD := cvD (stl si_Re_5 (rlt o_Re)) hD
        obtain ⟨s8, es8⟩ : ∃ z, z = sI s7 5 p2 := ⟨_, rfl⟩
        have hP : va_P D vwCl (wRe K hRe s8 ++ wRo K hRo sRo) H := by rw [es8]; exact hP
        have hD : va_D A (wRe K hRe s8 ++ wRo K hRo sRo) := by rw [es8]; exact hD
        have hf := lz_s hf s8 es8
        exact w64 s8 H locs ls hf hP hD hS (lv_sub hl [1, 4] rfl)
    · have hf := it_t hf c4
      have e9 := Option.some.inj hf
      rw [hQ]
      exact W.vret hx hb hr (fun t ht hW => ⟨⟨s2, rfl, e9, ⟨by rw [ht]; exact hP, va_K.moved hW.alike hK, hD⟩⟩, hS.F ht⟩) hS.2.2 dX8_weigh_33
  rw [hHe] at hgo
  exact hgo

theorem gcV_X8_weigh {T0 : Cond} {own : String} {i : Nat} (h : Cond.methodLink own i yX8_weigh ∈ wsL_law) : GoodIn (T0 :: wsL_law) (wsV own i RX8 yX8_weigh wz_X8_weigh) := gV h (mB55 _ (List.mem_of_getElem? (i := 22) rfl)) (mB55 _ (List.mem_of_getElem? (i := 23) rfl)) (mB2 _ (List.mem_of_getElem? (i := 14) rfl)) (mB56 _ (List.mem_of_getElem? (i := 0) rfl))
theorem hdV_X8_weigh : yX8_weigh.cls = RX8 ∧ yX8_weigh.cls ≠ "java/lang/invoke/MethodHandle" ∧ yX8_weigh.cls ≠ "java/lang/invoke/VarHandle" ∧ (parseMethodDescriptor yX8_weigh.desc).map (fun d => d.parameters.length) = some 3 := by decide +kernel
def wz_X8_extend : List Cond := .code yX8_extend cX8_extend 6 none :: wsL_law
abbrev r_X8_extend : Nat → Room := fun d => { frames := d + 4, cells := 0, slots := 0, locals := d * 25 + 102 }
theorem gcV_X8_extend {T0 : Cond} {own : String} {i : Nat} (h : Cond.methodLink own i yX8_extend ∈ wsL_law) : GoodIn (T0 :: wsL_law) (wsV own i RX8 yX8_extend wz_X8_extend) := gV h (mB55 _ (List.mem_of_getElem? (i := 16) rfl)) (mB55 _ (List.mem_of_getElem? (i := 17) rfl)) (mB2 _ (List.mem_of_getElem? (i := 14) rfl)) (mB55 _ (List.mem_of_getElem? (i := 18) rfl))
theorem hdV_X8_extend : yX8_extend.cls = RX8 ∧ yX8_extend.cls ≠ "java/lang/invoke/MethodHandle" ∧ yX8_extend.cls ≠ "java/lang/invoke/VarHandle" ∧ (parseMethodDescriptor yX8_extend.desc).map (fun d => d.parameters.length) = some 3 := by decide +kernel
set_option maxHeartbeats 4000000 in
set_option maxRecDepth 100000 in
theorem cs_X8_extend (l : Launch) (D : va_G) (K : Nat → ClassId) (F : Nat) (hRe : Nat → Nat) (hRo : Nat → Nat) (sRo : MS) (d : Nat) (rc : Int32 → Int32 → MS → Option MS) (ih0 : ∀ (sz : Nat) (sRe : MS) (p2 : Int32) (p3 : Int32) (res : MS), rc p2 p3 sRe = some res → Met l yX8_extend wz_X8_extend (r_X8_extend d) (va_Pc [.ref (hRe 99), .ref (hRo 99), .int p2, .int p3] (PW D K (wRe K hRe sRe ++ wRo K hRo sRo) sz)) (va_Qv (fun u => u = res) (fun u t => BW D K (va_A (wRe K hRe sRe ++ wRo K hRo sRo) sz) (wRe K hRe u ++ wRo K hRo sRo) t) (va_A (wRe K hRe sRe ++ wRo K hRo sRo) sz)) 0 0 (va_A (wRe K hRe sRe ++ wRo K hRo sRo) sz)) (sz : Nat) (sRe : MS) (p2 : Int32) (p3 : Int32) (res : MS) (hf : f_X8_extend_b F sRo p2 p3 rc sRe = some res) : Met l yX8_extend wz_X8_extend (r_X8_extend (d + 1)) (va_Pc [.ref (hRe 99), .ref (hRo 99), .int p2, .int p3] (PW D K (wRe K hRe sRe ++ wRo K hRo sRo) sz)) (va_Qv (fun u => u = res) (fun u t => BW D K (va_A (wRe K hRe sRe ++ wRo K hRo sRo) sz) (wRe K hRe u ++ wRo K hRo sRo) t) (va_A (wRe K hRe sRe ++ wRo K hRo sRo) sz)) 0 0 (va_A (wRe K hRe sRe ++ wRo K hRo sRo) sz) := by
  refine Met.ofW (cc := cX8_extend) (maxL := 6) (ret := none) (by decide) rfl ?_
  intro p e s m args below meth c s₁ B hml hv
  obtain ⟨hargs, hsz, hP, hK, hD0⟩ := hv
  have hx := B.exec
  have hb := B.bytes
  have hr := B.returns
  have hts := atoms_spec (ws := wz_X8_extend) B.pre
  have htl : ∀ w ∈ wsL_law, w.before args s = true := fun w h => hts w (List.mem_cons_of_mem _ h)
  have hown : s.vm.findClass RX8 = some m.cls := findClass_of_methodNamed B.named
  have hlocks := B.notSynchronized
  subst hsz
  have hD := hD0.self (sz := s.heap.size)
  generalize hAe : va_A (wRe K hRe sRe ++ wRo K hRo sRo) s.heap.size = A at hD ⊢
  have hA : ∀ q : Nat, s.heap.size ≤ q → A q := fun q h => by rw [← hAe]; exact Or.inr h
  have hS : va_S A s.heap s.heap [] := va_S.rf
  have iX8 : ∀ w ∈ wsX80, w ∈ wz_X8_extend := fun w h => List.mem_cons_of_mem _ (inlX8 w h)
  have iX9 : ∀ w ∈ wsX90, w ∈ wz_X8_extend := fun w h => List.mem_cons_of_mem _ (inlX9 w h)
  suffices hgo : ∀ Q : State → Prop, Q = MQ below (va_Qv (fun u => u = res) (fun u t => BW D K A (wRe K hRe u ++ wRo K hRo sRo) t) A) args s 0 0 A → W p l e (headSpec wz_X8_extend (r_X8_extend (d + 1))).room s m args below meth c s.heap [] 0 0 Q (entryFrame m args 6) from hgo _ rfl
  intro Q hQ
  have w88 : ∀ (k37 : Int32 → Int32 → MS → Option MS), (∀ (x4 : Int32), ∀ (x5 : Int32), ∀ (sRe : MS), ∀ (H : Heap) (locs : List Loc) (ls : Array Slot), k37 x4 x5 sRe = some res → va_P D vwCl (wRe K hRe sRe ++ wRo K hRo sRo) H → va_D A (wRe K hRe sRe ++ wRo K hRo sRo) → va_S A s.heap H locs → lv_has ls 6 [(0, .ref (hRe 99)), (1, .ref (hRo 99)), (2, .int p2), (3, .int p3), (4, .int x4), (5, .int x5)] → W p l e (headSpec wz_X8_extend (r_X8_extend (d + 1))).room s m args below meth c H locs 0 0 Q (F0 m 37 ls [])) → ∀ (x4 : Int32), ∀ (x5 : Int32), ∀ (sRe : MS), ∀ (H : Heap) (locs : List Loc) (ls : Array Slot), f_X8_extend_88 F sRo p2 p3 rc k37 x4 x5 sRe = some res → va_P D vwCl (wRe K hRe sRe ++ wRo K hRo sRo) H → va_D A (wRe K hRe sRe ++ wRo K hRo sRo) → va_S A s.heap H locs → lv_has ls 6 [(0, .ref (hRe 99)), (1, .ref (hRo 99)), (2, .int p2), (3, .int p3), (4, .int x4), (5, .int x5)] → W p l e (headSpec wz_X8_extend (r_X8_extend (d + 1))).room s m args below meth c H locs 0 0 Q (F0 m 88 ls []) := by
    intro k37 hk37 x4 x5 sRe H locs ls hf hP hD hS hl
    unfold f_X8_extend_88 at hf
    obtain ⟨v14, ev14⟩ : ∃ z : Int32, z = x5 + (1 : Int32) := ⟨_, rfl⟩
    have hf := lz_s hf v14 ev14
    refine lv_iinc (v := v14) (lv' := [(5, .int v14), (0, .ref (hRe 99)), (1, .ref (hRo 99)), (2, .int p2), (3, .int p3), (4, .int x4)]) hx hb dX8_extend_88 hl (k := 5) rfl (by rw [ev14]; rfl) (by decide) rfl (fun ls hl => ?_)
    refine lv_goto (tgt := 37) hx hb dX8_extend_91 (by decide) ?_
    exact hk37 x4 v14 sRe H locs ls hf hP hD hS (lv_sub hl [1, 2, 3, 4, 5, 0] rfl)
  have w37 : ∀ (n : Nat), ∀ (x4 : Int32), ∀ (x5 : Int32), ∀ (sRe : MS), ∀ (H : Heap) (locs : List Loc) (ls : Array Slot), f_X8_extend_37 F sRo p2 p3 rc n x4 x5 sRe = some res → va_P D vwCl (wRe K hRe sRe ++ wRo K hRo sRo) H → va_D A (wRe K hRe sRe ++ wRo K hRo sRo) → va_S A s.heap H locs → lv_has ls 6 [(0, .ref (hRe 99)), (1, .ref (hRo 99)), (2, .int p2), (3, .int p3), (4, .int x4), (5, .int x5)] → W p l e (headSpec wz_X8_extend (r_X8_extend (d + 1))).room s m args below meth c H locs 0 0 Q (F0 m 37 ls []) := by
    intro n
    induction n with
    | zero =>
      intro x4 x5 sRe H locs ls hf
      exact absurd (show none = some res from hf) (fun h => nomatch h)
    | succ n ih =>
      intro x4 x5 sRe H locs ls hf hP hD hS hl
      rw [f_X8_extend_37] at hf
      refine lv_iload hx hb dX8_extend_37 (lv_at hl 5 rfl) ?_
      refine lv_aload_n hx hb dX8_extend_39 rfl (lv_at hl 1 rfl) ?_
      refine va_get (D := D) (ci := 8) (v := .int (sRo.1 5)) (C := RX9) (T := TX9) (N := 19) hx hb hts iX9 hown hK hP (3 + 0) (rwr ln_Re o_Ro) rfl 5 (by decide) (htl _ (mB55 _ (List.mem_of_getElem? (i := 19) rfl))) (fun _ h9 => h9) rfl dX8_extend_40 ?_
      refine lv_icmp_ge (tgt := 94) hx hb dX8_extend_43 (by decide) (fun c7 => ?_) (fun c7 => ?_)
      · have hf := it_t hf c7
        have e9 := Option.some.inj hf
        rw [hQ]
        exact W.vret hx hb hr (fun t ht hW => ⟨⟨sRe, rfl, e9, ⟨by rw [ht]; exact hP, va_K.moved hW.alike hK, hD⟩⟩, hS.F ht⟩) hS.2.2 dX8_extend_94
      · have hf := it_f hf c7
        refine lv_aload_n hx hb dX8_extend_46 rfl (lv_at hl 1 rfl) ?_
        refine lv_iload hx hb dX8_extend_47 (lv_at hl 4 rfl) ?_
        refine lv_iload hx hb dX8_extend_49 (lv_at hl 5 rfl) ?_
        obtain ⟨o8, go8, hf⟩ := bd_s hf
        refine ro_Vi (As := [.int x4, .int x5]) (rest := []) ⟨hx, hb, hml, hown, hts⟩ (c_X9_isRoad l D K F hRo sRo x4 x5 o8 go8) (cwV 2 hts (gcV_X9_isRoad (mB56 _ (List.mem_of_getElem? (i := 23) rfl))) rfl rfl rfl hdV_X9_isRoad ⟨Nat.le_trans (Nat.le_of_ble_eq_true rfl) (Nat.le_add_left 4 (d + 1)), Nat.le_trans (Nat.le_of_ble_eq_true rfl) (Nat.le_add_left 102 ((d + 1) * 25))⟩) hK hP hS (va_PL (cs := [wRe K hRe sRe, wRo K hRo sRo]) (cc := [wRo K hRo sRo]) hP (fl2 _ _) [1] rfl (fl1 _)) (va_recv hK hP (ci := 8) (q0 := (3 + 0)) rfl (rwr ln_Re o_Ro)) rfl hl.1 rfl (Nat.le_of_ble_eq_true rfl) dX8_extend_51 ⟨Nat.zero_le _, Nat.zero_le _⟩ (fun H locs hP hS => ?_)
        refine lv_if_eq (tgt := 88) hx hb dX8_extend_54 (by decide) (fun c9 => ?_) (fun c9 => ?_)
        · have hf := it_t hf c9
          exact w88 (f_X8_extend_37 F sRo p2 p3 rc n) ih x4 x5 sRe H locs ls hf hP hD hS (lv_sub hl [0, 1, 2, 3, 4, 5] rfl)
        · have hf := it_f hf c9
          refine lv_iload_n hx hb dX8_extend_57 rfl (lv_at hl 3 rfl) ?_
          refine lv_iload hx hb dX8_extend_58 (lv_at hl 5 rfl) ?_
          refine lv_ishr hx hb dX8_extend_60 ?_
          refine lv_iconst (v := (1 : Int32)) hx hb dX8_extend_61 (by decide) ?_
          refine lv_iand hx hb dX8_extend_62 ?_
          refine lv_if_ne (tgt := 88) hx hb dX8_extend_63 (by decide) (fun c10 => ?_) (fun c10 => ?_)
          · have hf := it_f hf c10
            exact w88 (f_X8_extend_37 F sRo p2 p3 rc n) ih x4 x5 sRe H locs ls hf hP hD hS (lv_sub hl [0, 1, 2, 3, 4, 5] rfl)
          · have hf := it_t hf c10
            refine lv_aload_n hx hb dX8_extend_66 rfl (lv_at hl 0 rfl) ?_
            refine va_get (D := D) (ci := 7) (v := .ref (hRe 7)) (C := RX8) (T := TX8) (N := 8) hx hb hts iX8 hown hK hP 0 (rwl o_Re) rfl 7 (by decide) (htl _ (mB5 _ (List.mem_of_getElem? (i := 6) rfl))) (fun _ h9 => h9) rfl dX8_extend_67 ?_
            refine lv_iload_n hx hb dX8_extend_70 rfl (lv_at hl 2 rfl) ?_
            refine lv_iload hx hb dX8_extend_71 (lv_at hl 5 rfl) ?_
            obtain ⟨g11, hf⟩ := gd_s hf
            refine va_iast hx hb hK hP hD hS 2 0 (f := sRe.2.2.1 7) (rwl a_Re_7) rfl (vpb_in g11) dX8_extend_73 (fun H locs hP hD hS => ?_)
            have hP := cvP (stl sa_Re_7 (rlt a_Re_7)) hP
            have hD := cvD (stl sa_Re_7 (rlt a_Re_7)) hD
            obtain ⟨s12, es12⟩ : ∃ z, z = sA sRe 7 p2.toNatClampNeg x5 := ⟨_, rfl⟩
            have hP : va_P D vwCl (wRe K hRe s12 ++ wRo K hRo sRo) H := by rw [es12]; exact hP
            have hD : va_D A (wRe K hRe s12 ++ wRo K hRo sRo) := by rw [es12]; exact hD
            have hf := lz_s hf s12 es12
            refine lv_aload_n hx hb dX8_extend_74 rfl (lv_at hl 0 rfl) ?_
            refine lv_aload_n hx hb dX8_extend_75 rfl (lv_at hl 1 rfl) ?_
            refine lv_iload_n hx hb dX8_extend_76 rfl (lv_at hl 2 rfl) ?_
            refine lv_iconst (v := (1 : Int32)) hx hb dX8_extend_77 (by decide) ?_
            refine lv_iadd hx hb dX8_extend_78 ?_
            refine lv_iload_n hx hb dX8_extend_79 rfl (lv_at hl 3 rfl) ?_
            refine lv_iconst (v := (1 : Int32)) hx hb dX8_extend_80 (by decide) ?_
            refine lv_iload hx hb dX8_extend_81 (lv_at hl 5 rfl) ?_
            refine lv_ishl hx hb dX8_extend_83 ?_
            refine lv_ior hx hb dX8_extend_84 ?_
            obtain ⟨o13, go13, hf⟩ := bd_s hf
            refine rs_Vv (As := [.ref (hRo 99), .int (p2 + (1 : Int32)), .int (p3 ||| ((1 : Int32) <<< (x5 &&& 31)))]) (rest := []) ⟨hx, hb, hml, hown, hts⟩ (ih0 H.size s12 (p2 + (1 : Int32)) (p3 ||| ((1 : Int32) <<< (x5 &&& 31))) o13 go13) (cwV 3 hts (gV (mB55 _ (List.mem_of_getElem? (i := 15) rfl)) (mB55 _ (List.mem_of_getElem? (i := 16) rfl)) (mB55 _ (List.mem_of_getElem? (i := 17) rfl)) (mB2 _ (List.mem_of_getElem? (i := 14) rfl)) (mB55 _ (List.mem_of_getElem? (i := 18) rfl))) rfl rfl rfl hdV_X8_extend ⟨by show d + 4 + 1 ≤ d + 1 + 4; omega, by show 8 + (6 + 11) + (d * 25 + 102) ≤ (d + 1) * 25 + 102; omega⟩) hK hP hD hS hA (va_recv hK hP (ci := 7) (q0 := 0) rfl (rwl o_Re)) rfl hl.1 rfl (Nat.le_of_ble_eq_true rfl) dX8_extend_85 ⟨Nat.zero_le _, Nat.zero_le _⟩ (fun H locs hP hD hS => ?_)
            have hP : va_P D vwCl (wRe K hRe o13 ++ wRo K hRo sRo) H := hP
            have hD : va_D A (wRe K hRe o13 ++ wRo K hRo sRo) := hD
            exact w88 (f_X8_extend_37 F sRo p2 p3 rc n) ih x4 x5 o13 H locs ls hf hP hD hS (lv_sub hl [0, 1, 2, 3, 4, 5] rfl)
  have hen : entryFrame m args 6 = entryFrame m (([.ref (hRe 99), .ref (hRo 99), .int p2, .int p3] : List Value).toArray) 6 := by rw [hargs]
  have hl := lv_entry ([.ref (hRe 99), .ref (hRo 99), .int p2, .int p3]) (n := 6) (Nat.le_of_ble_eq_true rfl)
  rw [hen, lg_entry_eq]
  generalize (lg_sl ([.ref (hRe 99), .ref (hRo 99), .int p2, .int p3]) ++ List.replicate (6 - (lg_sl ([.ref (hRe 99), .ref (hRo 99), .int p2, .int p3])).length) Slot.unset).toArray = ls at hl ⊢
  have hl : lv_has ls 6 [(0, .ref (hRe 99)), (1, .ref (hRo 99)), (2, .int p2), (3, .int p3)] := hl
  unfold f_X8_extend_b at hf
  obtain ⟨H, hHe⟩ : ∃ z, z = s.heap := ⟨_, rfl⟩
  obtain ⟨locs, hLe⟩ : ∃ z : List Loc, z = [] := ⟨_, rfl⟩
  rw [← hLe]
  have hS : va_S A s.heap H locs := by rw [hHe, hLe]; exact hS
  have hP : va_P D vwCl (wRe K hRe sRe ++ wRo K hRo sRo) H := by rw [hHe]; exact hP
  have hgo : W p l e (headSpec wz_X8_extend (r_X8_extend (d + 1))).room s m args below meth c H locs 0 0 Q (F0 m 0 ls []) := by
    refine lv_aload_n hx hb dX8_extend_0 rfl (lv_at hl 0 rfl) ?_
    refine va_get (D := D) (ci := 7) (v := .ref (hRe 7)) (C := RX8) (T := TX8) (N := 8) hx hb hts iX8 hown hK hP 0 (rwl o_Re) rfl 7 (by decide) (htl _ (mB5 _ (List.mem_of_getElem? (i := 6) rfl))) (fun _ h9 => h9) rfl dX8_extend_1 ?_
    refine lv_iload_n hx hb dX8_extend_4 rfl (lv_at hl 2 rfl) ?_
    refine lv_iconst (v := (1 : Int32)) hx hb dX8_extend_5 (by decide) ?_
    refine lv_isub hx hb dX8_extend_6 ?_
    obtain ⟨g1, hf⟩ := gd_s hf
    refine va_iald hx hb hK hP 2 0 (f := sRe.2.2.1 7) (rwl a_Re_7) rfl (vpb_in g1) dX8_extend_7 ?_
    refine lv_topi (fun v2 ev2 => ?_)
    have hf := lz_s hf v2 ev2
    refine lv_istore (lv' := [(4, .int v2), (0, .ref (hRe 99)), (1, .ref (hRo 99)), (2, .int p2), (3, .int p3)]) hx hb dX8_extend_8 hl (by decide) rfl (fun ls hl => ?_)
    refine lv_iload hx hb dX8_extend_10 (lv_at hl 0 rfl) ?_
    refine lv_aload_n hx hb dX8_extend_12 rfl (lv_at hl 2 rfl) ?_
    obtain ⟨o3, go3, hf⟩ := bd_s hf
    refine ro_Vi (As := []) (rest := [.int v2]) ⟨hx, hb, hml, hown, hts⟩ (c_X9_goal l D K F hRo sRo o3 go3) (cwV 0 hts (gcV_X9_goal (mB55 _ (List.mem_of_getElem? (i := 20) rfl))) rfl rfl rfl hdV_X9_goal ⟨Nat.le_trans (Nat.le_of_ble_eq_true rfl) (Nat.le_add_left 4 (d + 1)), Nat.le_trans (Nat.le_of_ble_eq_true rfl) (Nat.le_add_left 102 ((d + 1) * 25))⟩) hK hP hS (va_PL (cs := [wRe K hRe sRe, wRo K hRo sRo]) (cc := [wRo K hRo sRo]) hP (fl2 _ _) [1] rfl (fl1 _)) (va_recv hK hP (ci := 8) (q0 := (3 + 0)) rfl (rwr ln_Re o_Ro)) rfl hl.1 rfl (Nat.le_of_ble_eq_true rfl) dX8_extend_13 ⟨Nat.zero_le _, Nat.zero_le _⟩ (fun H locs hP hS => ?_)
    refine lv_icmp_ne (tgt := 27) hx hb dX8_extend_16 (by decide) (fun c4 => ?_) (fun c4 => ?_)
    · have hf := it_f hf c4
      refine lv_iload_n hx hb dX8_extend_27 rfl (lv_at hl 3 rfl) ?_
      refine lv_bipush (v := (9 : Int32)) hx hb dX8_extend_28 (by decide) ?_
      refine lv_icmp_lt (tgt := 34) hx hb dX8_extend_30 (by decide) (fun c5 => ?_) (fun c5 => ?_)
      · have hf := it_t hf c5
        refine lv_iconst (v := (0 : Int32)) hx hb dX8_extend_34 (by decide) ?_
        refine lv_istore (lv' := [(5, .int (0 : Int32)), (4, .int v2), (0, .ref (hRe 99)), (1, .ref (hRo 99)), (2, .int p2), (3, .int p3)]) hx hb dX8_extend_35 hl (by decide) rfl (fun ls hl => ?_)
        exact w37 F v2 (0 : Int32) sRe H locs ls hf hP hD hS (lv_sub hl [2, 3, 4, 5, 1, 0] rfl)
      · have hf := it_f hf c5
        have e9 := Option.some.inj hf
        rw [hQ]
        exact W.vret hx hb hr (fun t ht hW => ⟨⟨sRe, rfl, e9, ⟨by rw [ht]; exact hP, va_K.moved hW.alike hK, hD⟩⟩, hS.F ht⟩) hS.2.2 dX8_extend_33
    · have hf := it_t hf c4
      refine lv_aload_n hx hb dX8_extend_19 rfl (lv_at hl 1 rfl) ?_
      refine lv_aload_n hx hb dX8_extend_20 rfl (lv_at hl 2 rfl) ?_
      refine lv_iload_n hx hb dX8_extend_21 rfl (lv_at hl 3 rfl) ?_
      refine lv_iload_n hx hb dX8_extend_22 rfl (lv_at hl 4 rfl) ?_
      obtain ⟨o6, go6, hf⟩ := bd_s hf
      refine rs_Vv (As := [.ref (hRo 99), .int p2, .int p3]) (rest := []) ⟨hx, hb, hml, hown, hts⟩ (c_X8_weigh l D K F hRe hRo H.size sRe sRo p2 p3 o6 go6) (cwV 3 hts (gcV_X8_weigh (mB55 _ (List.mem_of_getElem? (i := 21) rfl))) rfl rfl rfl hdV_X8_weigh ⟨Nat.le_trans (Nat.le_of_ble_eq_true rfl) (Nat.le_add_left 4 (d + 1)), Nat.le_trans (Nat.le_of_ble_eq_true rfl) (Nat.le_add_left 102 ((d + 1) * 25))⟩) hK hP hD hS hA (va_recv hK hP (ci := 7) (q0 := 0) rfl (rwl o_Re)) rfl hl.1 rfl (Nat.le_of_ble_eq_true rfl) dX8_extend_23 ⟨Nat.zero_le _, Nat.zero_le _⟩ (fun H locs hP hD hS => ?_)
      have hP : va_P D vwCl (wRe K hRe o6 ++ wRo K hRo sRo) H := hP
      have hD : va_D A (wRe K hRe o6 ++ wRo K hRo sRo) := hD
      have e9 := Option.some.inj hf
      rw [hQ]
      exact W.vret hx hb hr (fun t ht hW => ⟨⟨o6, rfl, e9, ⟨by rw [ht]; exact hP, va_K.moved hW.alike hK, hD⟩⟩, hS.F ht⟩) hS.2.2 dX8_extend_26
  rw [hHe] at hgo
  exact hgo
theorem c_X8_extend (l : Launch) (D : va_G) (K : Nat → ClassId) (F : Nat) (hRe : Nat → Nat) (hRo : Nat → Nat) (sRo : MS) : ∀ (d : Nat) (sz : Nat) (sRe : MS) (p2 : Int32) (p3 : Int32) (res : MS), f_X8_extend F sRo d p2 p3 sRe = some res → Met l yX8_extend wz_X8_extend (r_X8_extend d) (va_Pc [.ref (hRe 99), .ref (hRo 99), .int p2, .int p3] (PW D K (wRe K hRe sRe ++ wRo K hRo sRo) sz)) (va_Qv (fun u => u = res) (fun u t => BW D K (va_A (wRe K hRe sRe ++ wRo K hRo sRo) sz) (wRe K hRe u ++ wRo K hRo sRo) t) (va_A (wRe K hRe sRe ++ wRo K hRo sRo) sz)) 0 0 (va_A (wRe K hRe sRe ++ wRo K hRo sRo) sz) := by
  intro d
  induction d with
  | zero =>
    intro sz sRe p2 p3 res hf
    exact absurd (show none = some res from hf) (fun h => nomatch h)
  | succ d ih =>
    intro sz sRe p2 p3 res hf
    rw [f_X8_extend] at hf
    exact cs_X8_extend l D K F hRe hRo sRo d _ ih sz sRe p2 p3 res hf

def wz_X8_search : List Cond := .code yX8_search cX8_search 3 none :: wsL_law
abbrev r_X8_search : Room := { frames := 25, cells := 0, slots := 0, locals := 627 }
set_option maxHeartbeats 4000000 in
set_option maxRecDepth 100000 in
theorem c_X8_search (l : Launch) (D : va_G) (K : Nat → ClassId) (F : Nat) (hRe : Nat → Nat) (hRo : Nat → Nat) (sz : Nat) (sRe : MS) (sRo : MS) (p2 : Int32) (res : MS) (hf : f_X8_search F sRo p2 sRe = some res) : Met l yX8_search wz_X8_search r_X8_search (va_Pc [.ref (hRe 99), .ref (hRo 99), .int p2] (PW D K (wRe K hRe sRe ++ wRo K hRo sRo) sz)) (va_Qv (fun u => u = res) (fun u t => BW D K (va_A (wRe K hRe sRe ++ wRo K hRo sRo) sz) (wRe K hRe u ++ wRo K hRo sRo) t) (va_A (wRe K hRe sRe ++ wRo K hRo sRo) sz)) 0 0 (va_A (wRe K hRe sRe ++ wRo K hRo sRo) sz) := by
  refine Met.ofW (cc := cX8_search) (maxL := 3) (ret := none) (by decide) rfl ?_
  intro p e s m args below meth c s₁ B hml hv
  obtain ⟨hargs, hsz, hP, hK, hD0⟩ := hv
  have hx := B.exec
  have hb := B.bytes
  have hr := B.returns
  have hts := atoms_spec (ws := wz_X8_search) B.pre
  have htl : ∀ w ∈ wsL_law, w.before args s = true := fun w h => hts w (List.mem_cons_of_mem _ h)
  have hown : s.vm.findClass RX8 = some m.cls := findClass_of_methodNamed B.named
  have hlocks := B.notSynchronized
  subst hsz
  have hD := hD0.self (sz := s.heap.size)
  generalize hAe : va_A (wRe K hRe sRe ++ wRo K hRo sRo) s.heap.size = A at hD ⊢
  have hA : ∀ q : Nat, s.heap.size ≤ q → A q := fun q h => by rw [← hAe]; exact Or.inr h
  have hS : va_S A s.heap s.heap [] := va_S.rf
  have iX8 : ∀ w ∈ wsX80, w ∈ wz_X8_search := fun w h => List.mem_cons_of_mem _ (inlX8 w h)
  suffices hgo : ∀ Q : State → Prop, Q = MQ below (va_Qv (fun u => u = res) (fun u t => BW D K A (wRe K hRe u ++ wRo K hRo sRo) t) A) args s 0 0 A → W p l e (headSpec wz_X8_search r_X8_search).room s m args below meth c s.heap [] 0 0 Q (entryFrame m args 3) from hgo _ rfl
  intro Q hQ
  have hen : entryFrame m args 3 = entryFrame m (([.ref (hRe 99), .ref (hRo 99), .int p2] : List Value).toArray) 3 := by rw [hargs]
  have hl := lv_entry ([.ref (hRe 99), .ref (hRo 99), .int p2]) (n := 3) (Nat.le_of_ble_eq_true rfl)
  rw [hen, lg_entry_eq]
  generalize (lg_sl ([.ref (hRe 99), .ref (hRo 99), .int p2]) ++ List.replicate (3 - (lg_sl ([.ref (hRe 99), .ref (hRo 99), .int p2])).length) Slot.unset).toArray = ls at hl ⊢
  have hl : lv_has ls 3 [(0, .ref (hRe 99)), (1, .ref (hRo 99)), (2, .int p2)] := hl
  unfold f_X8_search at hf
  obtain ⟨H, hHe⟩ : ∃ z, z = s.heap := ⟨_, rfl⟩
  obtain ⟨locs, hLe⟩ : ∃ z : List Loc, z = [] := ⟨_, rfl⟩
  rw [← hLe]
  have hS : va_S A s.heap H locs := by rw [hHe, hLe]; exact hS
  have hP : va_P D vwCl (wRe K hRe sRe ++ wRo K hRo sRo) H := by rw [hHe]; exact hP
  have hgo : W p l e (headSpec wz_X8_search r_X8_search).room s m args below meth c H locs 0 0 Q (F0 m 0 ls []) := by
    refine lv_aload_n hx hb dX8_search_0 rfl (lv_at hl 0 rfl) ?_
    refine lv_iconst (v := (0 : Int32)) hx hb dX8_search_1 (by decide) ?_
    refine va_put (D := D) (ci := 7) (v := .int (0 : Int32)) (ty := .int) (C := RX8) (T := TX8) (N := 8) hx hb hts iX8 tyX8 tyX8_ok nmX8 hown hK hP hD hS 0 (rwl o_Re) rfl 0 (by decide) (htl _ (mB55 _ (List.mem_of_getElem? (i := 8) rfl))) (fun _ h9 => h9) rfl (by decide +kernel) rfl rfl (Nat.le_of_ble_eq_true rfl) dX8_search_2 (fun H locs hP hD hS => ?_)
    have hP := cvP (stl si_Re_0 (rlt o_Re)) hP
    have hD := cvD (stl si_Re_0 (rlt o_Re)) hD
    obtain ⟨s1, es1⟩ : ∃ z, z = sI sRe 0 (0 : Int32) := ⟨_, rfl⟩
    have hP : va_P D vwCl (wRe K hRe s1 ++ wRo K hRo sRo) H := by rw [es1]; exact hP
    have hD : va_D A (wRe K hRe s1 ++ wRo K hRo sRo) := by rw [es1]; exact hD
    have hf := lz_s hf s1 es1
    refine lv_aload_n hx hb dX8_search_5 rfl (lv_at hl 0 rfl) ?_
    refine lv_iconst (v := (0 : Int32)) hx hb dX8_search_6 (by decide) ?_
    refine va_put (D := D) (ci := 7) (v := .int (0 : Int32)) (ty := .int) (C := RX8) (T := TX8) (N := 8) hx hb hts iX8 tyX8 tyX8_ok nmX8 hown hK hP hD hS 0 (rwl o_Re) rfl 1 (by decide) (htl _ (mB55 _ (List.mem_of_getElem? (i := 9) rfl))) (fun _ h9 => h9) rfl (by decide +kernel) rfl rfl (Nat.le_of_ble_eq_true rfl) dX8_search_7 (fun H locs hP hD hS => ?_)
    have hP := cvP (stl si_Re_1 (rlt o_Re)) hP
    have hD := cvD (stl si_Re_1 (rlt o_Re)) hD
    obtain ⟨s2, es2⟩ : ∃ z, z = sI s1 1 (0 : Int32) := ⟨_, rfl⟩
    have hP : va_P D vwCl (wRe K hRe s2 ++ wRo K hRo sRo) H := by rw [es2]; exact hP
    have hD : va_D A (wRe K hRe s2 ++ wRo K hRo sRo) := by rw [es2]; exact hD
    have hf := lz_s hf s2 es2
    refine lv_aload_n hx hb dX8_search_10 rfl (lv_at hl 0 rfl) ?_
    refine lv_iconst (v := (0 : Int32)) hx hb dX8_search_11 (by decide) ?_
    refine va_put (D := D) (ci := 7) (v := .int (0 : Int32)) (ty := .int) (C := RX8) (T := TX8) (N := 8) hx hb hts iX8 tyX8 tyX8_ok nmX8 hown hK hP hD hS 0 (rwl o_Re) rfl 2 (by decide) (htl _ (mB55 _ (List.mem_of_getElem? (i := 10) rfl))) (fun _ h9 => h9) rfl (by decide +kernel) rfl rfl (Nat.le_of_ble_eq_true rfl) dX8_search_12 (fun H locs hP hD hS => ?_)
    have hP := cvP (stl si_Re_2 (rlt o_Re)) hP
    have hD := cvD (stl si_Re_2 (rlt o_Re)) hD
    obtain ⟨s3, es3⟩ : ∃ z, z = sI s2 2 (0 : Int32) := ⟨_, rfl⟩
    have hP : va_P D vwCl (wRe K hRe s3 ++ wRo K hRo sRo) H := by rw [es3]; exact hP
    have hD : va_D A (wRe K hRe s3 ++ wRo K hRo sRo) := by rw [es3]; exact hD
    have hf := lz_s hf s3 es3
    refine lv_aload_n hx hb dX8_search_15 rfl (lv_at hl 0 rfl) ?_
    refine lv_lconst (v := (0 : Int64)) hx hb dX8_search_16 (by decide) ?_
    refine va_put (D := D) (ci := 7) (v := .long (0 : Int64)) (ty := .long) (C := RX8) (T := TX8) (N := 8) hx hb hts iX8 tyX8 tyX8_ok nmX8 hown hK hP hD hS 0 (rwl o_Re) rfl 3 (by decide) (htl _ (mB55 _ (List.mem_of_getElem? (i := 11) rfl))) (fun _ h9 => h9) rfl (by decide +kernel) rfl rfl (Nat.le_of_ble_eq_true rfl) dX8_search_17 (fun H locs hP hD hS => ?_)
    have hP := cvP (stl si_Re_3 (rlt o_Re)) hP
    have hD := cvD (stl si_Re_3 (rlt o_Re)) hD
    obtain ⟨s4, es4⟩ : ∃ z, z = sL s3 3 (0 : Int64) := ⟨_, rfl⟩
    have hP : va_P D vwCl (wRe K hRe s4 ++ wRo K hRo sRo) H := by rw [es4]; exact hP
    have hD : va_D A (wRe K hRe s4 ++ wRo K hRo sRo) := by rw [es4]; exact hD
    have hf := lz_s hf s4 es4
    refine lv_aload_n hx hb dX8_search_20 rfl (lv_at hl 0 rfl) ?_
    refine lv_iconst (v := (0 : Int32)) hx hb dX8_search_21 (by decide) ?_
    refine va_put (D := D) (ci := 7) (v := .int (0 : Int32)) (ty := .int) (C := RX8) (T := TX8) (N := 8) hx hb hts iX8 tyX8 tyX8_ok nmX8 hown hK hP hD hS 0 (rwl o_Re) rfl 5 (by decide) (htl _ (mB55 _ (List.mem_of_getElem? (i := 12) rfl))) (fun _ h9 => h9) rfl (by decide +kernel) rfl rfl (Nat.le_of_ble_eq_true rfl) dX8_search_22 (fun H locs hP hD hS => ?_)
    have hP := cvP (stl si_Re_5 (rlt o_Re)) hP
    have hD := cvD (stl si_Re_5 (rlt o_Re)) hD
    obtain ⟨s5, es5⟩ : ∃ z, z = sI s4 5 (0 : Int32) := ⟨_, rfl⟩
    have hP : va_P D vwCl (wRe K hRe s5 ++ wRo K hRo sRo) H := by rw [es5]; exact hP
    have hD : va_D A (wRe K hRe s5 ++ wRo K hRo sRo) := by rw [es5]; exact hD
    have hf := lz_s hf s5 es5
    refine lv_aload_n hx hb dX8_search_25 rfl (lv_at hl 0 rfl) ?_
    refine lv_iload_n hx hb dX8_search_26 rfl (lv_at hl 2 rfl) ?_
    refine va_put (D := D) (ci := 7) (v := .int p2) (ty := .int) (C := RX8) (T := TX8) (N := 8) hx hb hts iX8 tyX8 tyX8_ok nmX8 hown hK hP hD hS 0 (rwl o_Re) rfl 6 (by decide) (htl _ (mB55 _ (List.mem_of_getElem? (i := 13) rfl))) (fun _ h9 => h9) rfl (by decide +kernel) rfl rfl (Nat.le_of_ble_eq_true rfl) dX8_search_27 (fun H locs hP hD hS => ?_)
    have hP := cvP (stl si_Re_6 (rlt o_Re)) hP
    have hD := cvD (stl si_Re_6 (rlt o_Re)) hD
    obtain ⟨s6, es6⟩ : ∃ z, z = sI s5 6 p2 := ⟨_, rfl⟩
    have hP : va_P D vwCl (wRe K hRe s6 ++ wRo K hRo sRo) H := by rw [es6]; exact hP
    have hD : va_D A (wRe K hRe s6 ++ wRo K hRo sRo) := by rw [es6]; exact hD
    have hf := lz_s hf s6 es6
    refine lv_aload_n hx hb dX8_search_30 rfl (lv_at hl 0 rfl) ?_
    refine va_get (D := D) (ci := 7) (v := .ref (hRe 7)) (C := RX8) (T := TX8) (N := 8) hx hb hts iX8 hown hK hP 0 (rwl o_Re) rfl 7 (by decide) (htl _ (mB5 _ (List.mem_of_getElem? (i := 6) rfl))) (fun _ h9 => h9) rfl dX8_search_31 ?_
    refine lv_iconst (v := (0 : Int32)) hx hb dX8_search_34 (by decide) ?_
    refine lv_aload_n hx hb dX8_search_35 rfl (lv_at hl 1 rfl) ?_
    obtain ⟨o7, go7, hf⟩ := bd_s hf
    refine ro_Vi (As := []) (rest := [.int (0 : Int32), .ref (hRe 7)]) ⟨hx, hb, hml, hown, hts⟩ (c_X9_start l D K F hRo sRo o7 go7) (cwV 0 hts (gcV_X9_start (mB55 _ (List.mem_of_getElem? (i := 14) rfl))) rfl rfl rfl hdV_X9_start ⟨Nat.le_of_ble_eq_true rfl, Nat.le_of_ble_eq_true rfl⟩) hK hP hS (va_PL (cs := [wRe K hRe s6, wRo K hRo sRo]) (cc := [wRo K hRo sRo]) hP (fl2 _ _) [1] rfl (fl1 _)) (va_recv hK hP (ci := 8) (q0 := (3 + 0)) rfl (rwr ln_Re o_Ro)) rfl hl.1 rfl (Nat.le_of_ble_eq_true rfl) dX8_search_36 ⟨Nat.zero_le _, Nat.zero_le _⟩ (fun H locs hP hS => ?_)
    obtain ⟨g8, hf⟩ := gd_s hf
    refine va_iast hx hb hK hP hD hS 2 0 (f := s6.2.2.1 7) (rwl a_Re_7) rfl (vpb_in g8) dX8_search_39 (fun H locs hP hD hS => ?_)
    have hP := cvP (stl sa_Re_7 (rlt a_Re_7)) hP
    have hD := cvD (stl sa_Re_7 (rlt a_Re_7)) hD
    obtain ⟨s9, es9⟩ : ∃ z, z = sA s6 7 ((0 : Int32).toNatClampNeg) o7 := ⟨_, rfl⟩
    have hP : va_P D vwCl (wRe K hRe s9 ++ wRo K hRo sRo) H := by rw [es9]; exact hP
    have hD : va_D A (wRe K hRe s9 ++ wRo K hRo sRo) := by rw [es9]; exact hD
    have hf := lz_s hf s9 es9
    refine lv_aload_n hx hb dX8_search_40 rfl (lv_at hl 0 rfl) ?_
    refine lv_aload_n hx hb dX8_search_41 rfl (lv_at hl 1 rfl) ?_
    refine lv_iconst (v := (1 : Int32)) hx hb dX8_search_42 (by decide) ?_
    refine lv_iconst (v := (1 : Int32)) hx hb dX8_search_43 (by decide) ?_
    refine lv_aload_n hx hb dX8_search_44 rfl (lv_at hl 1 rfl) ?_
    obtain ⟨o10, go10, hf⟩ := bd_s hf
    refine ro_Vi (As := []) (rest := [.int (1 : Int32), .int (1 : Int32), .ref (hRo 99), .ref (hRe 99)]) ⟨hx, hb, hml, hown, hts⟩ (c_X9_start l D K F hRo sRo o10 go10) (cwV 0 hts (gcV_X9_start (mB55 _ (List.mem_of_getElem? (i := 14) rfl))) rfl rfl rfl hdV_X9_start ⟨Nat.le_of_ble_eq_true rfl, Nat.le_of_ble_eq_true rfl⟩) hK hP hS (va_PL (cs := [wRe K hRe s9, wRo K hRo sRo]) (cc := [wRo K hRo sRo]) hP (fl2 _ _) [1] rfl (fl1 _)) (va_recv hK hP (ci := 8) (q0 := (3 + 0)) rfl (rwr ln_Re o_Ro)) rfl hl.1 rfl (Nat.le_of_ble_eq_true rfl) dX8_search_45 ⟨Nat.zero_le _, Nat.zero_le _⟩ (fun H locs hP hS => ?_)
    refine lv_ishl hx hb dX8_search_48 ?_
    obtain ⟨o11, go11, hf⟩ := bd_s hf
    refine rs_Vv (As := [.ref (hRo 99), .int (1 : Int32), .int ((1 : Int32) <<< (o10 &&& 31))]) (rest := []) ⟨hx, hb, hml, hown, hts⟩ (c_X8_extend l D K F hRe hRo sRo 20 H.size s9 (1 : Int32) ((1 : Int32) <<< (o10 &&& 31)) o11 go11) (cwV 3 hts (gcV_X8_extend (mB55 _ (List.mem_of_getElem? (i := 15) rfl))) rfl rfl rfl hdV_X8_extend ⟨Nat.le_of_ble_eq_true rfl, Nat.le_of_ble_eq_true rfl⟩) hK hP hD hS hA (va_recv hK hP (ci := 7) (q0 := 0) rfl (rwl o_Re)) rfl hl.1 rfl (Nat.le_of_ble_eq_true rfl) dX8_search_49 ⟨Nat.zero_le _, Nat.zero_le _⟩ (fun H locs hP hD hS => ?_)
    have hP : va_P D vwCl (wRe K hRe o11 ++ wRo K hRo sRo) H := hP
    have hD : va_D A (wRe K hRe o11 ++ wRo K hRo sRo) := hD
    have e9 := Option.some.inj hf
    rw [hQ]
    exact W.vret hx hb hr (fun t ht hW => ⟨⟨o11, rfl, e9, ⟨by rw [ht]; exact hP, va_K.moved hW.alike hK, hD⟩⟩, hS.F ht⟩) hS.2.2 dX8_search_52
  rw [hHe] at hgo
  exact hgo
