def wz_X7_runLength : List Cond := .code yX7_runLength cX7_runLength 4 (some .int) :: wsL_law
abbrev r_X7_runLength : Room := { frames := 0, cells := 0, slots := 0, locals := 0 }
set_option maxHeartbeats 4000000 in
set_option maxRecDepth 100000 in
theorem c_X7_runLength (l : Launch) (D : va_G) (K : Nat → ClassId) (F : Nat) (hRd : Nat → Nat) (rRd4 : Nat) (aTp nTp : Nat) (sRd : MS) (fTp : (Nat → Int32)) (p1 : Int32) (p2 : Int32) (res : Int32) (hf : f_X7_runLength F sRd nTp fTp p1 p2 = some res) : Met l yX7_runLength wz_X7_runLength r_X7_runLength (va_Pc [.ref (hRd 99), .int p1, .int p2] (PR D K (wRd K hRd aTp rRd4 sRd ++ wAB K aTp nTp fTp))) (va_Qi (fun r (_ : Unit) => r = res) BN nOne) 0 0 nOne := by
  refine Met.ofW (cc := cX7_runLength) (maxL := 4) (ret := (some .int)) (by decide) rfl ?_
  intro p e s m args below meth c s₁ B hml hv
  obtain ⟨hargs, hP, hK⟩ := hv
  have hx := B.exec
  have hb := B.bytes
  have hr := B.returns
  have hts := atoms_spec (ws := wz_X7_runLength) B.pre
  have htl : ∀ w ∈ wsL_law, w.before args s = true := fun w h => hts w (List.mem_cons_of_mem _ h)
  have hown : s.vm.findClass RX7 = some m.cls := findClass_of_methodNamed B.named
  have hlocks := B.notSynchronized
  have hS : va_S nOne s.heap s.heap [] := va_S.rf
  have iX7 : ∀ w ∈ wsX70, w ∈ wz_X7_runLength := fun w h => List.mem_cons_of_mem _ (inlX7 w h)
  suffices hgo : ∀ Q : State → Prop, Q = MQ below (va_Qi (fun r (_ : Unit) => r = res) BN nOne) args s 0 0 nOne → W p l e (headSpec wz_X7_runLength r_X7_runLength).room s m args below meth c s.heap [] 0 0 Q (entryFrame m args 4) from hgo _ rfl
  intro Q hQ
  have w39 : ∀ (x3 : Int32), ∀ (H : Heap) (locs : List Loc) (ls : Array Slot), f_X7_runLength_39 F sRd nTp fTp p1 p2 x3 = some res → va_P D vwCl (wRd K hRd aTp rRd4 sRd ++ wAB K aTp nTp fTp) H → va_S nOne s.heap H locs → lv_has ls 4 [(0, .ref (hRd 99)), (3, .int x3)] → W p l e (headSpec wz_X7_runLength r_X7_runLength).room s m args below meth c H locs 0 0 Q (F0 m 39 ls []) := by
    intro x3 H locs ls hf hP hS hl
    unfold f_X7_runLength_39 at hf
    refine lv_iload_n hx hb dX7_runLength_39 rfl (lv_at hl 1 rfl) ?_
    refine lv_aload_n hx hb dX7_runLength_40 rfl (lv_at hl 0 rfl) ?_
    refine va_get (D := D) (ci := 6) (v := .int (sRd.1 6)) (C := RX7) (T := TX7) (N := 11) hx hb hts iX7 hown hK hP 0 (rwl o_Rd) rfl 6 (by decide) (htl _ (mB9 _ (List.mem_of_getElem? (i := 6) rfl))) (fun _ h9 => h9) rfl dX7_runLength_41 ?_
    refine lv_isub hx hb dX7_runLength_44 ?_
    have e9 := Option.some.inj hf
    rw [hQ]
    exact W.iret (v := (x3 - (sRd.1 6))) hx hb hr (fun t ht hW => ⟨⟨(x3 - (sRd.1 6)), (), rfl, e9, trivial⟩, hS.F ht⟩) hS.2.2 dX7_runLength_45
  have w5 : ∀ (n : Nat), ∀ (x3 : Int32), ∀ (H : Heap) (locs : List Loc) (ls : Array Slot), f_X7_runLength_5 F sRd nTp fTp p1 p2 n x3 = some res → va_P D vwCl (wRd K hRd aTp rRd4 sRd ++ wAB K aTp nTp fTp) H → va_S nOne s.heap H locs → lv_has ls 4 [(0, .ref (hRd 99)), (1, .int p1), (2, .int p2), (3, .int x3)] → W p l e (headSpec wz_X7_runLength r_X7_runLength).room s m args below meth c H locs 0 0 Q (F0 m 5 ls []) := by
    intro n
    induction n with
    | zero =>
      intro x3 H locs ls hf
      exact absurd (show none = some res from hf) (fun h => nomatch h)
    | succ n ih =>
      intro x3 H locs ls hf hP hS hl
      rw [f_X7_runLength_5] at hf
      refine lv_iload_n hx hb dX7_runLength_5 rfl (lv_at hl 3 rfl) ?_
      refine lv_aload_n hx hb dX7_runLength_6 rfl (lv_at hl 0 rfl) ?_
      refine va_get (D := D) (ci := 6) (v := .int (sRd.1 3)) (C := RX7) (T := TX7) (N := 11) hx hb hts iX7 hown hK hP 0 (rwl o_Rd) rfl 3 (by decide) (htl _ (mB8 _ (List.mem_of_getElem? (i := 3) rfl))) (fun _ h9 => h9) rfl dX7_runLength_7 ?_
      refine lv_icmp_ge (tgt := 39) hx hb dX7_runLength_10 (by decide) (fun c1 => ?_) (fun c1 => ?_)
      · have hf := it_t hf c1
        exact w39 x3 H locs ls hf hP hS (lv_sub hl [0, 3] rfl)
      · have hf := it_f hf c1
        refine lv_aload_n hx hb dX7_runLength_13 rfl (lv_at hl 0 rfl) ?_
        refine va_get (D := D) (ci := 6) (v := .ref aTp) (C := RX7) (T := TX7) (N := 11) hx hb hts iX7 hown hK hP 0 (rwl o_Rd) rfl 2 (by decide) (htl _ (mB3 _ (List.mem_of_getElem? (i := 16) rfl))) (fun _ h9 => h9) rfl dX7_runLength_14 ?_
        refine lv_iload_n hx hb dX7_runLength_17 rfl (lv_at hl 3 rfl) ?_
        obtain ⟨g2, hf⟩ := gd_s hf
        refine va_bald hx hb hK hP (3 + 0) 2 (f := fTp) (rwr ln_Rd o_AB) rfl (vpb_in g2) dX7_runLength_18 ?_
        refine lv_iload_n hx hb dX7_runLength_19 rfl (lv_at hl 1 rfl) ?_
        refine lv_icmp_lt (tgt := 39) hx hb dX7_runLength_20 (by decide) (fun c3 => ?_) (fun c3 => ?_)
        · have hf := it_t hf c3
          exact w39 x3 H locs ls hf hP hS (lv_sub hl [0, 3] rfl)
        · have hf := it_f hf c3
          refine lv_aload_n hx hb dX7_runLength_23 rfl (lv_at hl 0 rfl) ?_
          refine va_get (D := D) (ci := 6) (v := .ref aTp) (C := RX7) (T := TX7) (N := 11) hx hb hts iX7 hown hK hP 0 (rwl o_Rd) rfl 2 (by decide) (htl _ (mB3 _ (List.mem_of_getElem? (i := 16) rfl))) (fun _ h9 => h9) rfl dX7_runLength_24 ?_
          refine lv_iload_n hx hb dX7_runLength_27 rfl (lv_at hl 3 rfl) ?_
          obtain ⟨g4, hf⟩ := gd_s hf
          refine va_bald hx hb hK hP (3 + 0) 2 (f := fTp) (rwr ln_Rd o_AB) rfl (vpb_in g4) dX7_runLength_28 ?_
          refine lv_iload_n hx hb dX7_runLength_29 rfl (lv_at hl 2 rfl) ?_
          refine lv_icmp_gt (tgt := 39) hx hb dX7_runLength_30 (by decide) (fun c5 => ?_) (fun c5 => ?_)
          · have hf := it_t hf c5
            exact w39 x3 H locs ls hf hP hS (lv_sub hl [0, 3] rfl)
          · have hf := it_f hf c5
            obtain ⟨v6, ev6⟩ : ∃ z : Int32, z = x3 + (1 : Int32) := ⟨_, rfl⟩
            have hf := lz_s hf v6 ev6
            refine lv_iinc (v := v6) (lv' := [(3, .int v6), (0, .ref (hRd 99)), (1, .int p1), (2, .int p2)]) hx hb dX7_runLength_33 hl (k := 3) rfl (by rw [ev6]; rfl) (by decide) rfl (fun ls hl => ?_)
            refine lv_goto (tgt := 5) hx hb dX7_runLength_36 (by decide) ?_
            exact ih v6 H locs ls hf hP hS (lv_sub hl [1, 2, 3, 0] rfl)
  have hen : entryFrame m args 4 = entryFrame m (([.ref (hRd 99), .int p1, .int p2] : List Value).toArray) 4 := by rw [hargs]
  have hl := lv_entry ([.ref (hRd 99), .int p1, .int p2]) (n := 4) (Nat.le_of_ble_eq_true rfl)
  rw [hen, lg_entry_eq]
  generalize (lg_sl ([.ref (hRd 99), .int p1, .int p2]) ++ List.replicate (4 - (lg_sl ([.ref (hRd 99), .int p1, .int p2])).length) Slot.unset).toArray = ls at hl ⊢
  have hl : lv_has ls 4 [(0, .ref (hRd 99)), (1, .int p1), (2, .int p2)] := hl
  unfold f_X7_runLength at hf
  obtain ⟨H, hHe⟩ : ∃ z, z = s.heap := ⟨_, rfl⟩
  obtain ⟨locs, hLe⟩ : ∃ z : List Loc, z = [] := ⟨_, rfl⟩
  rw [← hLe]
  have hS : va_S nOne s.heap H locs := by rw [hHe, hLe]; exact hS
  have hP : va_P D vwCl (wRd K hRd aTp rRd4 sRd ++ wAB K aTp nTp fTp) H := by rw [hHe]; exact hP
  have hgo : W p l e (headSpec wz_X7_runLength r_X7_runLength).room s m args below meth c H locs 0 0 Q (F0 m 0 ls []) := by
    refine lv_aload_n hx hb dX7_runLength_0 rfl (lv_at hl 0 rfl) ?_
    refine va_get (D := D) (ci := 6) (v := .int (sRd.1 6)) (C := RX7) (T := TX7) (N := 11) hx hb hts iX7 hown hK hP 0 (rwl o_Rd) rfl 6 (by decide) (htl _ (mB9 _ (List.mem_of_getElem? (i := 6) rfl))) (fun _ h9 => h9) rfl dX7_runLength_1 ?_
    refine lv_istore_n (lv' := [(3, .int (sRd.1 6)), (0, .ref (hRd 99)), (1, .int p1), (2, .int p2)]) hx hb dX7_runLength_4 rfl hl (by decide) rfl (fun ls hl => ?_)
    exact w5 F (sRd.1 6) H locs ls hf hP hS (lv_sub hl [1, 2, 3, 0] rfl)
  rw [hHe] at hgo
  exact hgo

theorem gcV_X7_runLength {T0 : Cond} {own : String} {i : Nat} (h : Cond.methodLink own i yX7_runLength ∈ wsL_law) : GoodIn (T0 :: wsL_law) (wsV own i RX7 yX7_runLength wz_X7_runLength) := gV h (mB9 _ (List.mem_of_getElem? (i := 12) rfl)) (mB9 _ (List.mem_of_getElem? (i := 13) rfl)) (mB1 _ (List.mem_of_getElem? (i := 22) rfl)) (mB9 _ (List.mem_of_getElem? (i := 14) rfl))
theorem hdV_X7_runLength : yX7_runLength.cls = RX7 ∧ yX7_runLength.cls ≠ "java/lang/invoke/MethodHandle" ∧ yX7_runLength.cls ≠ "java/lang/invoke/VarHandle" ∧ (parseMethodDescriptor yX7_runLength.desc).map (fun d => d.parameters.length) = some 2 := by decide +kernel
def wz_X7_lookOn : List Cond := .code yX7_lookOn cX7_lookOn 4 none :: wsL_law
abbrev r_X7_lookOn : Room := { frames := 1, cells := 0, slots := 0, locals := 23 }
set_option maxHeartbeats 4000000 in
set_option maxRecDepth 100000 in
theorem c_X7_lookOn (l : Launch) (D : va_G) (K : Nat → ClassId) (F : Nat) (hRd : Nat → Nat) (rRd4 : Nat) (aTp nTp : Nat) (sz : Nat) (sRd : MS) (fTp : (Nat → Int32)) (res : MS) (hf : f_X7_lookOn F nTp fTp sRd = some res) : Met l yX7_lookOn wz_X7_lookOn r_X7_lookOn (va_Pc [.ref (hRd 99)] (PW D K (wRd K hRd aTp rRd4 sRd ++ wAB K aTp nTp fTp) sz)) (va_Qv (fun u => u = res) (fun u t => BW D K (va_A (wRd K hRd aTp rRd4 sRd ++ wAB K aTp nTp fTp) sz) (wRd K hRd aTp rRd4 u ++ wAB K aTp nTp fTp) t) (va_A (wRd K hRd aTp rRd4 sRd ++ wAB K aTp nTp fTp) sz)) 0 0 (va_A (wRd K hRd aTp rRd4 sRd ++ wAB K aTp nTp fTp) sz) := by
  refine Met.ofW (cc := cX7_lookOn) (maxL := 4) (ret := none) (by decide) rfl ?_
  intro p e s m args below meth c s₁ B hml hv
  obtain ⟨hargs, hsz, hP, hK, hD0⟩ := hv
  have hx := B.exec
  have hb := B.bytes
  have hr := B.returns
  have hts := atoms_spec (ws := wz_X7_lookOn) B.pre
  have htl : ∀ w ∈ wsL_law, w.before args s = true := fun w h => hts w (List.mem_cons_of_mem _ h)
  have hown : s.vm.findClass RX7 = some m.cls := findClass_of_methodNamed B.named
  have hlocks := B.notSynchronized
  subst hsz
  have hD := hD0.self (sz := s.heap.size)
  generalize hAe : va_A (wRd K hRd aTp rRd4 sRd ++ wAB K aTp nTp fTp) s.heap.size = A at hD ⊢
  have hA : ∀ q : Nat, s.heap.size ≤ q → A q := fun q h => by rw [← hAe]; exact Or.inr h
  have hS : va_S A s.heap s.heap [] := va_S.rf
  have iX7 : ∀ w ∈ wsX70, w ∈ wz_X7_lookOn := fun w h => List.mem_cons_of_mem _ (inlX7 w h)
  suffices hgo : ∀ Q : State → Prop, Q = MQ below (va_Qv (fun u => u = res) (fun u t => BW D K A (wRd K hRd aTp rRd4 u ++ wAB K aTp nTp fTp) t) A) args s 0 0 A → W p l e (headSpec wz_X7_lookOn r_X7_lookOn).room s m args below meth c s.heap [] 0 0 Q (entryFrame m args 4) from hgo _ rfl
  intro Q hQ
  have w192 : ∀ (y1 : Int32), ∀ (sRd : MS), ∀ (H : Heap) (locs : List Loc) (ls : Array Slot), f_X7_lookOn_192 F nTp fTp y1 sRd = some res → va_P D vwCl (wRd K hRd aTp rRd4 sRd ++ wAB K aTp nTp fTp) H → va_D A (wRd K hRd aTp rRd4 sRd ++ wAB K aTp nTp fTp) → va_S A s.heap H locs → lv_has ls 4 [] → W p l e (headSpec wz_X7_lookOn r_X7_lookOn).room s m args below meth c H locs 0 0 Q (F0 m 192 ls [.int y1, .ref (hRd 99)]) := by
    intro y1 sRd H locs ls hf hP hD hS hl
    unfold f_X7_lookOn_192 at hf
    refine va_put (D := D) (ci := 6) (v := .int y1) (ty := .int) (C := RX7) (T := TX7) (N := 11) hx hb hts iX7 tyX7 tyX7_ok nmX7 hown hK hP hD hS 0 (rwl o_Rd) rfl 5 (by decide) (htl _ (mB8 _ (List.mem_of_getElem? (i := 7) rfl))) (fun _ h9 => h9) rfl (by decide +kernel) rfl rfl (Nat.le_of_ble_eq_true rfl) dX7_lookOn_192 (fun H locs hP hD hS => ?_)
    have hP := cvP (stl si_Rd_5 (rlt o_Rd)) hP
    have hD := cvD (stl si_Rd_5 (rlt o_Rd)) hD
    obtain ⟨s25, es25⟩ : ∃ z, z = sI sRd 5 y1 := ⟨_, rfl⟩
    have hP : va_P D vwCl (wRd K hRd aTp rRd4 s25 ++ wAB K aTp nTp fTp) H := by rw [es25]; exact hP
    have hD : va_D A (wRd K hRd aTp rRd4 s25 ++ wAB K aTp nTp fTp) := by rw [es25]; exact hD
    have hf := lz_s hf s25 es25
    have e9 := Option.some.inj hf
    rw [hQ]
    exact W.vret hx hb hr (fun t ht hW => ⟨⟨s25, rfl, e9, ⟨by rw [ht]; exact hP, va_K.moved hW.alike hK, hD⟩⟩, hS.F ht⟩) hS.2.2 dX7_lookOn_195
  have w176 : ∀ (y1 : Int32), ∀ (sRd : MS), ∀ (H : Heap) (locs : List Loc) (ls : Array Slot), f_X7_lookOn_176 F nTp fTp y1 sRd = some res → va_P D vwCl (wRd K hRd aTp rRd4 sRd ++ wAB K aTp nTp fTp) H → va_D A (wRd K hRd aTp rRd4 sRd ++ wAB K aTp nTp fTp) → va_S A s.heap H locs → lv_has ls 4 [] → W p l e (headSpec wz_X7_lookOn r_X7_lookOn).room s m args below meth c H locs 0 0 Q (F0 m 176 ls [.int y1, .ref (hRd 99)]) := by
    intro y1 sRd H locs ls hf hP hD hS hl
    unfold f_X7_lookOn_176 at hf
    refine va_put (D := D) (ci := 6) (v := .int y1) (ty := .int) (C := RX7) (T := TX7) (N := 11) hx hb hts iX7 tyX7 tyX7_ok nmX7 hown hK hP hD hS 0 (rwl o_Rd) rfl 5 (by decide) (htl _ (mB8 _ (List.mem_of_getElem? (i := 7) rfl))) (fun _ h9 => h9) rfl (by decide +kernel) rfl rfl (Nat.le_of_ble_eq_true rfl) dX7_lookOn_176 (fun H locs hP hD hS => ?_)
    have hP := cvP (stl si_Rd_5 (rlt o_Rd)) hP
    have hD := cvD (stl si_Rd_5 (rlt o_Rd)) hD
    obtain ⟨s24, es24⟩ : ∃ z, z = sI sRd 5 y1 := ⟨_, rfl⟩
    have hP : va_P D vwCl (wRd K hRd aTp rRd4 s24 ++ wAB K aTp nTp fTp) H := by rw [es24]; exact hP
    have hD : va_D A (wRd K hRd aTp rRd4 s24 ++ wAB K aTp nTp fTp) := by rw [es24]; exact hD
    have hf := lz_s hf s24 es24
    refine lv_goto (tgt := 195) hx hb dX7_lookOn_179 (by decide) ?_
    have e9 := Option.some.inj hf
    rw [hQ]
    exact W.vret hx hb hr (fun t ht hW => ⟨⟨s24, rfl, e9, ⟨by rw [ht]; exact hP, va_K.moved hW.alike hK, hD⟩⟩, hS.F ht⟩) hS.2.2 dX7_lookOn_195
  have w155 : ∀ (y1 : Int32), ∀ (sRd : MS), ∀ (H : Heap) (locs : List Loc) (ls : Array Slot), f_X7_lookOn_155 F nTp fTp y1 sRd = some res → va_P D vwCl (wRd K hRd aTp rRd4 sRd ++ wAB K aTp nTp fTp) H → va_D A (wRd K hRd aTp rRd4 sRd ++ wAB K aTp nTp fTp) → va_S A s.heap H locs → lv_has ls 4 [] → W p l e (headSpec wz_X7_lookOn r_X7_lookOn).room s m args below meth c H locs 0 0 Q (F0 m 155 ls [.int y1, .ref (hRd 99)]) := by
    intro y1 sRd H locs ls hf hP hD hS hl
    unfold f_X7_lookOn_155 at hf
    refine va_put (D := D) (ci := 6) (v := .int y1) (ty := .int) (C := RX7) (T := TX7) (N := 11) hx hb hts iX7 tyX7 tyX7_ok nmX7 hown hK hP hD hS 0 (rwl o_Rd) rfl 5 (by decide) (htl _ (mB8 _ (List.mem_of_getElem? (i := 7) rfl))) (fun _ h9 => h9) rfl (by decide +kernel) rfl rfl (Nat.le_of_ble_eq_true rfl) dX7_lookOn_155 (fun H locs hP hD hS => ?_)
    have hP := cvP (stl si_Rd_5 (rlt o_Rd)) hP
    have hD := cvD (stl si_Rd_5 (rlt o_Rd)) hD
    obtain ⟨s23, es23⟩ : ∃ z, z = sI sRd 5 y1 := ⟨_, rfl⟩
    have hP : va_P D vwCl (wRd K hRd aTp rRd4 s23 ++ wAB K aTp nTp fTp) H := by rw [es23]; exact hP
    have hD : va_D A (wRd K hRd aTp rRd4 s23 ++ wAB K aTp nTp fTp) := by rw [es23]; exact hD
    have hf := lz_s hf s23 es23
    refine lv_goto (tgt := 195) hx hb dX7_lookOn_158 (by decide) ?_
    have e9 := Option.some.inj hf
    rw [hQ]
    exact W.vret hx hb hr (fun t ht hW => ⟨⟨s23, rfl, e9, ⟨by rw [ht]; exact hP, va_K.moved hW.alike hK, hD⟩⟩, hS.F ht⟩) hS.2.2 dX7_lookOn_195
  have w122 : ∀ (x1 : Int32), ∀ (x2 : Int32), ∀ (y0 : Int32), ∀ (sRd : MS), ∀ (H : Heap) (locs : List Loc) (ls : Array Slot), f_X7_lookOn_122 F nTp fTp x1 x2 y0 sRd = some res → va_P D vwCl (wRd K hRd aTp rRd4 sRd ++ wAB K aTp nTp fTp) H → va_D A (wRd K hRd aTp rRd4 sRd ++ wAB K aTp nTp fTp) → va_S A s.heap H locs → lv_has ls 4 [(0, .ref (hRd 99)), (1, .int x1), (2, .int x2)] → W p l e (headSpec wz_X7_lookOn r_X7_lookOn).room s m args below meth c H locs 0 0 Q (F0 m 122 ls [.int y0]) := by
    intro x1 x2 y0 sRd H locs ls hf hP hD hS hl
    unfold f_X7_lookOn_122 at hf
    refine lv_istore_n (lv' := [(3, .int y0), (0, .ref (hRd 99)), (1, .int x1), (2, .int x2)]) hx hb dX7_lookOn_122 rfl hl (by decide) rfl (fun ls hl => ?_)
    refine lv_aload_n hx hb dX7_lookOn_123 rfl (lv_at hl 1 rfl) ?_
    refine lv_aload_n hx hb dX7_lookOn_124 rfl (lv_at hl 1 rfl) ?_
    refine va_get (D := D) (ci := 6) (v := .int (sRd.1 6)) (C := RX7) (T := TX7) (N := 11) hx hb hts iX7 hown hK hP 0 (rwl o_Rd) rfl 6 (by decide) (htl _ (mB9 _ (List.mem_of_getElem? (i := 6) rfl))) (fun _ h9 => h9) rfl dX7_lookOn_125 ?_
    refine lv_iconst (v := (1 : Int32)) hx hb dX7_lookOn_128 (by decide) ?_
    refine lv_iload_n hx hb dX7_lookOn_129 rfl (lv_at hl 2 rfl) ?_
    refine lv_iload_n hx hb dX7_lookOn_130 rfl (lv_at hl 3 rfl) ?_
    refine lv_iadd hx hb dX7_lookOn_131 ?_
    refine va_mmax hx hb (hml.trans hl.1.symm) hown (htl _ (mB9 _ (List.mem_of_getElem? (i := 7) rfl))) (htl _ (mB9 _ (List.mem_of_getElem? (i := 8) rfl))) (htl _ (mB9 _ (List.mem_of_getElem? (i := 9) rfl))) (htl _ (mB9 _ (List.mem_of_getElem? (i := 10) rfl))) (Nat.le_of_ble_eq_true rfl) (Nat.le_of_ble_eq_true rfl) (Nat.zero_le _) (Nat.zero_le _) dX7_lookOn_132 ?_
    refine lv_topi (fun v16 ev16 => ?_)
    have hf := lz_s hf v16 ev16
    refine lv_iadd hx hb dX7_lookOn_135 ?_
    refine va_put (D := D) (ci := 6) (v := .int ((sRd.1 6) + v16)) (ty := .int) (C := RX7) (T := TX7) (N := 11) hx hb hts iX7 tyX7 tyX7_ok nmX7 hown hK hP hD hS 0 (rwl o_Rd) rfl 7 (by decide) (htl _ (mB8 _ (List.mem_of_getElem? (i := 6) rfl))) (fun _ h9 => h9) rfl (by decide +kernel) rfl rfl (Nat.le_of_ble_eq_true rfl) dX7_lookOn_136 (fun H locs hP hD hS => ?_)
    have hP := cvP (stl si_Rd_7 (rlt o_Rd)) hP
    have hD := cvD (stl si_Rd_7 (rlt o_Rd)) hD
    obtain ⟨s17, es17⟩ : ∃ z, z = sI sRd 7 ((sRd.1 6) + v16) := ⟨_, rfl⟩
    have hP : va_P D vwCl (wRd K hRd aTp rRd4 s17 ++ wAB K aTp nTp fTp) H := by rw [es17]; exact hP
    have hD : va_D A (wRd K hRd aTp rRd4 s17 ++ wAB K aTp nTp fTp) := by rw [es17]; exact hD
    have hf := lz_s hf s17 es17
    refine lv_iload_n hx hb dX7_lookOn_139 rfl (lv_at hl 2 rfl) ?_
    refine lv_if_le (tgt := 161) hx hb dX7_lookOn_140 (by decide) (fun c18 => ?_) (fun c18 => ?_)
    · have hf := it_t hf c18
      refine lv_iload_n hx hb dX7_lookOn_161 rfl (lv_at hl 3 rfl) ?_
      refine lv_if_le (tgt := 182) hx hb dX7_lookOn_162 (by decide) (fun c19 => ?_) (fun c19 => ?_)
      · have hf := it_t hf c19
        refine lv_aload_n hx hb dX7_lookOn_182 rfl (lv_at hl 1 rfl) ?_
        refine lv_iload_n hx hb dX7_lookOn_183 rfl (lv_at hl 0 rfl) ?_
        refine lv_if_eq (tgt := 191) hx hb dX7_lookOn_184 (by decide) (fun c20 => ?_) (fun c20 => ?_)
        · have hf := it_t hf c20
          refine lv_iconst (v := (4 : Int32)) hx hb dX7_lookOn_191 (by decide) ?_
          exact w192 (4 : Int32) s17 H locs ls hf hP hD hS (lv_sub hl [] rfl)
        · have hf := it_f hf c20
          refine lv_iconst (v := (3 : Int32)) hx hb dX7_lookOn_187 (by decide) ?_
          refine lv_goto (tgt := 192) hx hb dX7_lookOn_188 (by decide) ?_
          exact w192 (3 : Int32) s17 H locs ls hf hP hD hS (lv_sub hl [] rfl)
      · have hf := it_f hf c19
        refine lv_aload_n hx hb dX7_lookOn_165 rfl (lv_at hl 1 rfl) ?_
        refine lv_iload_n hx hb dX7_lookOn_166 rfl (lv_at hl 3 rfl) ?_
        refine lv_iconst (v := (3 : Int32)) hx hb dX7_lookOn_167 (by decide) ?_
        refine lv_icmp_gt (tgt := 175) hx hb dX7_lookOn_168 (by decide) (fun c21 => ?_) (fun c21 => ?_)
        · have hf := it_t hf c21
          refine lv_iconst (v := (4 : Int32)) hx hb dX7_lookOn_175 (by decide) ?_
          exact w176 (4 : Int32) s17 H locs ls hf hP hD hS (lv_sub hl [] rfl)
        · have hf := it_f hf c21
          refine lv_iconst (v := (2 : Int32)) hx hb dX7_lookOn_171 (by decide) ?_
          refine lv_goto (tgt := 176) hx hb dX7_lookOn_172 (by decide) ?_
          exact w176 (2 : Int32) s17 H locs ls hf hP hD hS (lv_sub hl [] rfl)
    · have hf := it_f hf c18
      refine lv_aload_n hx hb dX7_lookOn_143 rfl (lv_at hl 1 rfl) ?_
      refine lv_iload_n hx hb dX7_lookOn_144 rfl (lv_at hl 2 rfl) ?_
      refine lv_bipush (v := (8 : Int32)) hx hb dX7_lookOn_145 (by decide) ?_
      refine lv_icmp_gt (tgt := 154) hx hb dX7_lookOn_147 (by decide) (fun c22 => ?_) (fun c22 => ?_)
      · have hf := it_t hf c22
        refine lv_iconst (v := (4 : Int32)) hx hb dX7_lookOn_154 (by decide) ?_
        exact w155 (4 : Int32) s17 H locs ls hf hP hD hS (lv_sub hl [] rfl)
      · have hf := it_f hf c22
        refine lv_iconst (v := (1 : Int32)) hx hb dX7_lookOn_150 (by decide) ?_
        refine lv_goto (tgt := 155) hx hb dX7_lookOn_151 (by decide) ?_
        exact w155 (1 : Int32) s17 H locs ls hf hP hD hS (lv_sub hl [] rfl)
  have w117 : ∀ (x1 : Int32), ∀ (x2 : Int32), ∀ (sRd : MS), ∀ (H : Heap) (locs : List Loc) (ls : Array Slot), f_X7_lookOn_117 F nTp fTp x1 x2 sRd = some res → va_P D vwCl (wRd K hRd aTp rRd4 sRd ++ wAB K aTp nTp fTp) H → va_D A (wRd K hRd aTp rRd4 sRd ++ wAB K aTp nTp fTp) → va_S A s.heap H locs → lv_has ls 4 [(0, .ref (hRd 99)), (1, .int x1), (2, .int x2)] → W p l e (headSpec wz_X7_lookOn r_X7_lookOn).room s m args below meth c H locs 0 0 Q (F0 m 117 ls []) := by
    intro x1 x2 sRd H locs ls hf hP hD hS hl
    unfold f_X7_lookOn_117 at hf
    refine lv_iconst (v := (1 : Int32)) hx hb dX7_lookOn_117 (by decide) ?_
    refine lv_goto (tgt := 122) hx hb dX7_lookOn_118 (by decide) ?_
    exact w122 x1 x2 (1 : Int32) sRd H locs ls hf hP hD hS (lv_sub hl [0, 1, 2] rfl)
  have w46 : ∀ (sRd : MS), ∀ (H : Heap) (locs : List Loc) (ls : Array Slot), f_X7_lookOn_46 F nTp fTp sRd = some res → va_P D vwCl (wRd K hRd aTp rRd4 sRd ++ wAB K aTp nTp fTp) H → va_D A (wRd K hRd aTp rRd4 sRd ++ wAB K aTp nTp fTp) → va_S A s.heap H locs → lv_has ls 4 [(0, .ref (hRd 99))] → W p l e (headSpec wz_X7_lookOn r_X7_lookOn).room s m args below meth c H locs 0 0 Q (F0 m 46 ls []) := by
    intro sRd H locs ls hf hP hD hS hl
    unfold f_X7_lookOn_46 at hf
    refine lv_aload_n hx hb dX7_lookOn_46 rfl (lv_at hl 0 rfl) ?_
    refine va_get (D := D) (ci := 6) (v := .int (sRd.1 6)) (C := RX7) (T := TX7) (N := 11) hx hb hts iX7 hown hK hP 0 (rwl o_Rd) rfl 6 (by decide) (htl _ (mB9 _ (List.mem_of_getElem? (i := 6) rfl))) (fun _ h9 => h9) rfl dX7_lookOn_47 ?_
    refine lv_aload_n hx hb dX7_lookOn_50 rfl (lv_at hl 0 rfl) ?_
    refine va_get (D := D) (ci := 6) (v := .int (sRd.1 3)) (C := RX7) (T := TX7) (N := 11) hx hb hts iX7 hown hK hP 0 (rwl o_Rd) rfl 3 (by decide) (htl _ (mB8 _ (List.mem_of_getElem? (i := 3) rfl))) (fun _ h9 => h9) rfl dX7_lookOn_51 ?_
    refine lv_icmp_lt (tgt := 71) hx hb dX7_lookOn_54 (by decide) (fun c7 => ?_) (fun c7 => ?_)
    · have hf := it_t hf c7
      refine lv_aload_n hx hb dX7_lookOn_71 rfl (lv_at hl 0 rfl) ?_
      refine lv_bipush (v := (97 : Int32)) hx hb dX7_lookOn_72 (by decide) ?_
      refine lv_bipush (v := (122 : Int32)) hx hb dX7_lookOn_74 (by decide) ?_
      obtain ⟨o8, go8, hf⟩ := bd_s hf
      refine ro_Vi (As := [.int (97 : Int32), .int (122 : Int32)]) (rest := []) ⟨hx, hb, hml, hown, hts⟩ (c_X7_runLength l D K F hRd rRd4 aTp nTp sRd fTp (97 : Int32) (122 : Int32) o8 go8) (cwV 2 hts (gcV_X7_runLength (mB9 _ (List.mem_of_getElem? (i := 11) rfl))) rfl rfl rfl hdV_X7_runLength ⟨Nat.le_of_ble_eq_true rfl, Nat.le_of_ble_eq_true rfl⟩) hK hP hS hP (va_recv hK hP (ci := 6) (q0 := 0) rfl (rwl o_Rd)) rfl hl.1 rfl (Nat.le_of_ble_eq_true rfl) dX7_lookOn_76 ⟨Nat.zero_le _, Nat.zero_le _⟩ (fun H locs hP hS => ?_)
      refine lv_istore_n (lv' := [(1, .int o8), (0, .ref (hRd 99))]) hx hb dX7_lookOn_79 rfl hl (by decide) rfl (fun ls hl => ?_)
      refine lv_aload_n hx hb dX7_lookOn_80 rfl (lv_at hl 1 rfl) ?_
      refine lv_bipush (v := (48 : Int32)) hx hb dX7_lookOn_81 (by decide) ?_
      refine lv_bipush (v := (57 : Int32)) hx hb dX7_lookOn_83 (by decide) ?_
      obtain ⟨o9, go9, hf⟩ := bd_s hf
      refine ro_Vi (As := [.int (48 : Int32), .int (57 : Int32)]) (rest := []) ⟨hx, hb, hml, hown, hts⟩ (c_X7_runLength l D K F hRd rRd4 aTp nTp sRd fTp (48 : Int32) (57 : Int32) o9 go9) (cwV 2 hts (gcV_X7_runLength (mB9 _ (List.mem_of_getElem? (i := 11) rfl))) rfl rfl rfl hdV_X7_runLength ⟨Nat.le_of_ble_eq_true rfl, Nat.le_of_ble_eq_true rfl⟩) hK hP hS hP (va_recv hK hP (ci := 6) (q0 := 0) rfl (rwl o_Rd)) rfl hl.1 rfl (Nat.le_of_ble_eq_true rfl) dX7_lookOn_85 ⟨Nat.zero_le _, Nat.zero_le _⟩ (fun H locs hP hS => ?_)
      refine lv_istore_n (lv' := [(2, .int o9), (1, .int o8), (0, .ref (hRd 99))]) hx hb dX7_lookOn_88 rfl hl (by decide) rfl (fun ls hl => ?_)
      refine lv_aload_n hx hb dX7_lookOn_89 rfl (lv_at hl 2 rfl) ?_
      refine va_get (D := D) (ci := 6) (v := .ref aTp) (C := RX7) (T := TX7) (N := 11) hx hb hts iX7 hown hK hP 0 (rwl o_Rd) rfl 2 (by decide) (htl _ (mB3 _ (List.mem_of_getElem? (i := 16) rfl))) (fun _ h9 => h9) rfl dX7_lookOn_90 ?_
      refine lv_aload_n hx hb dX7_lookOn_93 rfl (lv_at hl 2 rfl) ?_
      refine va_get (D := D) (ci := 6) (v := .int (sRd.1 6)) (C := RX7) (T := TX7) (N := 11) hx hb hts iX7 hown hK hP 0 (rwl o_Rd) rfl 6 (by decide) (htl _ (mB9 _ (List.mem_of_getElem? (i := 6) rfl))) (fun _ h9 => h9) rfl dX7_lookOn_94 ?_
      obtain ⟨g10, hf⟩ := gd_s hf
      refine va_bald hx hb hK hP (3 + 0) 2 (f := fTp) (rwr ln_Rd o_AB) rfl (vpb_in g10) dX7_lookOn_97 ?_
      refine lv_bipush (v := (59 : Int32)) hx hb dX7_lookOn_98 (by decide) ?_
      refine lv_icmp_eq (tgt := 117) hx hb dX7_lookOn_100 (by decide) (fun c11 => ?_) (fun c11 => ?_)
      · have hf := it_t hf c11
        exact w117 o8 o9 sRd H locs ls hf hP hD hS (lv_sub hl [2, 1, 0] rfl)
      · have hf := it_f hf c11
        refine lv_aload_n hx hb dX7_lookOn_103 rfl (lv_at hl 2 rfl) ?_
        refine va_get (D := D) (ci := 6) (v := .ref aTp) (C := RX7) (T := TX7) (N := 11) hx hb hts iX7 hown hK hP 0 (rwl o_Rd) rfl 2 (by decide) (htl _ (mB3 _ (List.mem_of_getElem? (i := 16) rfl))) (fun _ h9 => h9) rfl dX7_lookOn_104 ?_
        refine lv_aload_n hx hb dX7_lookOn_107 rfl (lv_at hl 2 rfl) ?_
        refine va_get (D := D) (ci := 6) (v := .int (sRd.1 6)) (C := RX7) (T := TX7) (N := 11) hx hb hts iX7 hown hK hP 0 (rwl o_Rd) rfl 6 (by decide) (htl _ (mB9 _ (List.mem_of_getElem? (i := 6) rfl))) (fun _ h9 => h9) rfl dX7_lookOn_108 ?_
        obtain ⟨g12, hf⟩ := gd_s hf
        refine va_bald hx hb hK hP (3 + 0) 2 (f := fTp) (rwr ln_Rd o_AB) rfl (vpb_in g12) dX7_lookOn_111 ?_
        refine lv_bipush (v := (44 : Int32)) hx hb dX7_lookOn_112 (by decide) ?_
        refine lv_icmp_ne (tgt := 121) hx hb dX7_lookOn_114 (by decide) (fun c13 => ?_) (fun c13 => ?_)
        · have hf := it_f hf c13
          refine lv_iconst (v := (0 : Int32)) hx hb dX7_lookOn_121 (by decide) ?_
          exact w122 o8 o9 (0 : Int32) sRd H locs ls hf hP hD hS (lv_sub hl [2, 1, 0] rfl)
        · have hf := it_t hf c13
          exact w117 o8 o9 sRd H locs ls hf hP hD hS (lv_sub hl [2, 1, 0] rfl)
    · have hf := it_f hf c7
      refine lv_aload_n hx hb dX7_lookOn_57 rfl (lv_at hl 0 rfl) ?_
      refine lv_aload_n hx hb dX7_lookOn_58 rfl (lv_at hl 0 rfl) ?_
      refine va_get (D := D) (ci := 6) (v := .int (sRd.1 6)) (C := RX7) (T := TX7) (N := 11) hx hb hts iX7 hown hK hP 0 (rwl o_Rd) rfl 6 (by decide) (htl _ (mB9 _ (List.mem_of_getElem? (i := 6) rfl))) (fun _ h9 => h9) rfl dX7_lookOn_59 ?_
      refine va_put (D := D) (ci := 6) (v := .int (sRd.1 6)) (ty := .int) (C := RX7) (T := TX7) (N := 11) hx hb hts iX7 tyX7 tyX7_ok nmX7 hown hK hP hD hS 0 (rwl o_Rd) rfl 7 (by decide) (htl _ (mB8 _ (List.mem_of_getElem? (i := 6) rfl))) (fun _ h9 => h9) rfl (by decide +kernel) rfl rfl (Nat.le_of_ble_eq_true rfl) dX7_lookOn_62 (fun H locs hP hD hS => ?_)
      have hP := cvP (stl si_Rd_7 (rlt o_Rd)) hP
      have hD := cvD (stl si_Rd_7 (rlt o_Rd)) hD
      obtain ⟨s14, es14⟩ : ∃ z, z = sI sRd 7 (sRd.1 6) := ⟨_, rfl⟩
      have hP : va_P D vwCl (wRd K hRd aTp rRd4 s14 ++ wAB K aTp nTp fTp) H := by rw [es14]; exact hP
      have hD : va_D A (wRd K hRd aTp rRd4 s14 ++ wAB K aTp nTp fTp) := by rw [es14]; exact hD
      have hf := lz_s hf s14 es14
      refine lv_aload_n hx hb dX7_lookOn_65 rfl (lv_at hl 0 rfl) ?_
      refine lv_iconst (v := (0 : Int32)) hx hb dX7_lookOn_66 (by decide) ?_
      refine va_put (D := D) (ci := 6) (v := .int (0 : Int32)) (ty := .int) (C := RX7) (T := TX7) (N := 11) hx hb hts iX7 tyX7 tyX7_ok nmX7 hown hK hP hD hS 0 (rwl o_Rd) rfl 5 (by decide) (htl _ (mB8 _ (List.mem_of_getElem? (i := 7) rfl))) (fun _ h9 => h9) rfl (by decide +kernel) rfl rfl (Nat.le_of_ble_eq_true rfl) dX7_lookOn_67 (fun H locs hP hD hS => ?_)
      have hP := cvP (stl si_Rd_5 (rlt o_Rd)) hP
      have hD := cvD (stl si_Rd_5 (rlt o_Rd)) hD
      obtain ⟨s15, es15⟩ : ∃ z, z = sI s14 5 (0 : Int32) := ⟨_, rfl⟩
      have hP : va_P D vwCl (wRd K hRd aTp rRd4 s15 ++ wAB K aTp nTp fTp) H := by rw [es15]; exact hP
      have hD : va_D A (wRd K hRd aTp rRd4 s15 ++ wAB K aTp nTp fTp) := by rw [es15]; exact hD
      have hf := lz_s hf s15 es15
      have e9 := Option.some.inj hf
      rw [hQ]
      exact W.vret hx hb hr (fun t ht hW => ⟨⟨s15, rfl, e9, ⟨by rw [ht]; exact hP, va_K.moved hW.alike hK, hD⟩⟩, hS.F ht⟩) hS.2.2 dX7_lookOn_70
  have w8 : ∀ (n : Nat), ∀ (sRd : MS), ∀ (H : Heap) (locs : List Loc) (ls : Array Slot), f_X7_lookOn_8 F nTp fTp n sRd = some res → va_P D vwCl (wRd K hRd aTp rRd4 sRd ++ wAB K aTp nTp fTp) H → va_D A (wRd K hRd aTp rRd4 sRd ++ wAB K aTp nTp fTp) → va_S A s.heap H locs → lv_has ls 4 [(0, .ref (hRd 99))] → W p l e (headSpec wz_X7_lookOn r_X7_lookOn).room s m args below meth c H locs 0 0 Q (F0 m 8 ls []) := by
    intro n
    induction n with
    | zero =>
      intro sRd H locs ls hf
      exact absurd (show none = some res from hf) (fun h => nomatch h)
    | succ n ih =>
      intro sRd H locs ls hf hP hD hS hl
      rw [f_X7_lookOn_8] at hf
      refine lv_aload_n hx hb dX7_lookOn_8 rfl (lv_at hl 0 rfl) ?_
      refine va_get (D := D) (ci := 6) (v := .int (sRd.1 6)) (C := RX7) (T := TX7) (N := 11) hx hb hts iX7 hown hK hP 0 (rwl o_Rd) rfl 6 (by decide) (htl _ (mB9 _ (List.mem_of_getElem? (i := 6) rfl))) (fun _ h9 => h9) rfl dX7_lookOn_9 ?_
      refine lv_aload_n hx hb dX7_lookOn_12 rfl (lv_at hl 0 rfl) ?_
      refine va_get (D := D) (ci := 6) (v := .int (sRd.1 3)) (C := RX7) (T := TX7) (N := 11) hx hb hts iX7 hown hK hP 0 (rwl o_Rd) rfl 3 (by decide) (htl _ (mB8 _ (List.mem_of_getElem? (i := 3) rfl))) (fun _ h9 => h9) rfl dX7_lookOn_13 ?_
      refine lv_icmp_ge (tgt := 46) hx hb dX7_lookOn_16 (by decide) (fun c2 => ?_) (fun c2 => ?_)
      · have hf := it_t hf c2
        exact w46 sRd H locs ls hf hP hD hS (lv_sub hl [0] rfl)
      · have hf := it_f hf c2
        refine lv_aload_n hx hb dX7_lookOn_19 rfl (lv_at hl 0 rfl) ?_
        refine va_get (D := D) (ci := 6) (v := .ref aTp) (C := RX7) (T := TX7) (N := 11) hx hb hts iX7 hown hK hP 0 (rwl o_Rd) rfl 2 (by decide) (htl _ (mB3 _ (List.mem_of_getElem? (i := 16) rfl))) (fun _ h9 => h9) rfl dX7_lookOn_20 ?_
        refine lv_aload_n hx hb dX7_lookOn_23 rfl (lv_at hl 0 rfl) ?_
        refine va_get (D := D) (ci := 6) (v := .int (sRd.1 6)) (C := RX7) (T := TX7) (N := 11) hx hb hts iX7 hown hK hP 0 (rwl o_Rd) rfl 6 (by decide) (htl _ (mB9 _ (List.mem_of_getElem? (i := 6) rfl))) (fun _ h9 => h9) rfl dX7_lookOn_24 ?_
        obtain ⟨g3, hf⟩ := gd_s hf
        refine va_bald hx hb hK hP (3 + 0) 2 (f := fTp) (rwr ln_Rd o_AB) rfl (vpb_in g3) dX7_lookOn_27 ?_
        refine lv_bipush (v := (32 : Int32)) hx hb dX7_lookOn_28 (by decide) ?_
        refine lv_icmp_ne (tgt := 46) hx hb dX7_lookOn_30 (by decide) (fun c4 => ?_) (fun c4 => ?_)
        · have hf := it_f hf c4
          exact w46 sRd H locs ls hf hP hD hS (lv_sub hl [0] rfl)
        · have hf := it_t hf c4
          refine lv_aload_n hx hb dX7_lookOn_33 rfl (lv_at hl 0 rfl) ?_
          refine lv_dup hx hb dX7_lookOn_34 rfl ?_
          refine va_get (D := D) (ci := 6) (v := .int (sRd.1 6)) (C := RX7) (T := TX7) (N := 11) hx hb hts iX7 hown hK hP 0 (rwl o_Rd) rfl 6 (by decide) (htl _ (mB9 _ (List.mem_of_getElem? (i := 6) rfl))) (fun _ h9 => h9) rfl dX7_lookOn_35 ?_
          refine lv_iconst (v := (1 : Int32)) hx hb dX7_lookOn_38 (by decide) ?_
          refine lv_iadd hx hb dX7_lookOn_39 ?_
          refine lv_topi (fun v5 ev5 => ?_)
          have hf := lz_s hf v5 ev5
          refine va_put (D := D) (ci := 6) (v := .int v5) (ty := .int) (C := RX7) (T := TX7) (N := 11) hx hb hts iX7 tyX7 tyX7_ok nmX7 hown hK hP hD hS 0 (rwl o_Rd) rfl 6 (by decide) (htl _ (mB9 _ (List.mem_of_getElem? (i := 6) rfl))) (fun _ h9 => h9) rfl (by decide +kernel) rfl rfl (Nat.le_of_ble_eq_true rfl) dX7_lookOn_40 (fun H locs hP hD hS => ?_)
          have hP := cvP (stl si_Rd_6 (rlt o_Rd)) hP
          have hD := cvD (stl si_Rd_6 (rlt o_Rd)) hD
          obtain ⟨s6, es6⟩ : ∃ z, z = sI sRd 6 v5 := ⟨_, rfl⟩
          have hP : va_P D vwCl (wRd K hRd aTp rRd4 s6 ++ wAB K aTp nTp fTp) H := by rw [es6]; exact hP
          have hD : va_D A (wRd K hRd aTp rRd4 s6 ++ wAB K aTp nTp fTp) := by rw [es6]; exact hD
          have hf := lz_s hf s6 es6
          refine lv_goto (tgt := 8) hx hb dX7_lookOn_43 (by decide) ?_
          exact ih s6 H locs ls hf hP hD hS (lv_sub hl [0] rfl)
  have hen : entryFrame m args 4 = entryFrame m (([.ref (hRd 99)] : List Value).toArray) 4 := by rw [hargs]
  have hl := lv_entry ([.ref (hRd 99)]) (n := 4) (Nat.le_of_ble_eq_true rfl)
  rw [hen, lg_entry_eq]
  generalize (lg_sl ([.ref (hRd 99)]) ++ List.replicate (4 - (lg_sl ([.ref (hRd 99)])).length) Slot.unset).toArray = ls at hl ⊢
  have hl : lv_has ls 4 [(0, .ref (hRd 99))] := hl
  unfold f_X7_lookOn at hf
  obtain ⟨H, hHe⟩ : ∃ z, z = s.heap := ⟨_, rfl⟩
  obtain ⟨locs, hLe⟩ : ∃ z : List Loc, z = [] := ⟨_, rfl⟩
  rw [← hLe]
  have hS : va_S A s.heap H locs := by rw [hHe, hLe]; exact hS
  have hP : va_P D vwCl (wRd K hRd aTp rRd4 sRd ++ wAB K aTp nTp fTp) H := by rw [hHe]; exact hP
  have hgo : W p l e (headSpec wz_X7_lookOn r_X7_lookOn).room s m args below meth c H locs 0 0 Q (F0 m 0 ls []) := by
    refine lv_aload_n hx hb dX7_lookOn_0 rfl (lv_at hl 0 rfl) ?_
    refine lv_aload_n hx hb dX7_lookOn_1 rfl (lv_at hl 0 rfl) ?_
    refine va_get (D := D) (ci := 6) (v := .int (sRd.1 7)) (C := RX7) (T := TX7) (N := 11) hx hb hts iX7 hown hK hP 0 (rwl o_Rd) rfl 7 (by decide) (htl _ (mB8 _ (List.mem_of_getElem? (i := 6) rfl))) (fun _ h9 => h9) rfl dX7_lookOn_2 ?_
    refine va_put (D := D) (ci := 6) (v := .int (sRd.1 7)) (ty := .int) (C := RX7) (T := TX7) (N := 11) hx hb hts iX7 tyX7 tyX7_ok nmX7 hown hK hP hD hS 0 (rwl o_Rd) rfl 6 (by decide) (htl _ (mB9 _ (List.mem_of_getElem? (i := 6) rfl))) (fun _ h9 => h9) rfl (by decide +kernel) rfl rfl (Nat.le_of_ble_eq_true rfl) dX7_lookOn_5 (fun H locs hP hD hS => ?_)
    have hP := cvP (stl si_Rd_6 (rlt o_Rd)) hP
    have hD := cvD (stl si_Rd_6 (rlt o_Rd)) hD
    obtain ⟨s1, es1⟩ : ∃ z, z = sI sRd 6 (sRd.1 7) := ⟨_, rfl⟩
    have hP : va_P D vwCl (wRd K hRd aTp rRd4 s1 ++ wAB K aTp nTp fTp) H := by rw [es1]; exact hP
    have hD : va_D A (wRd K hRd aTp rRd4 s1 ++ wAB K aTp nTp fTp) := by rw [es1]; exact hD
    have hf := lz_s hf s1 es1
    exact w8 F s1 H locs ls hf hP hD hS (lv_sub hl [0] rfl)
  rw [hHe] at hgo
  exact hgo

def wz_X7_isWord : List Cond := .code yX7_isWord cX7_isWord 3 (some .boolean) :: wsL_law
abbrev r_X7_isWord : Room := { frames := 4, cells := 0, slots := 0, locals := 85 }
set_option maxHeartbeats 4000000 in
set_option maxRecDepth 100000 in
theorem c_X7_isWord (l : Launch) (D : va_G) (K : Nat → ClassId) (F : Nat) (adK adV : Nat → Nat) (tF : Nat) (hRd : Nat → Nat) (rRd4 : Nat) (aTp nTp : Nat) (sRd : MS) (fTp : (Nat → Int32)) (p1 : Nat) (res : Int32) (hf : f_X7_isWord F sRd nTp fTp p1 = some res) : Met l yX7_isWord wz_X7_isWord r_X7_isWord (va_Pc [.ref (hRd 99), .ref (adK p1)] (PRz D K adK adV tF (wRd K hRd aTp rRd4 sRd ++ wAB K aTp nTp fTp))) (va_Qi (fun r (_ : Unit) => r = res) BN nOne) 0 0 nOne := by
  refine Met.ofW (cc := cX7_isWord) (maxL := 3) (ret := (some .boolean)) (by decide) rfl ?_
  intro p e s m args below meth c s₁ B hml hv
  obtain ⟨hargs, ⟨hP, hK⟩, hZ⟩ := hv
  have hx := B.exec
  have hb := B.bytes
  have hr := B.returns
  have hts := atoms_spec (ws := wz_X7_isWord) B.pre
  have htl : ∀ w ∈ wsL_law, w.before args s = true := fun w h => hts w (List.mem_cons_of_mem _ h)
  have hown : s.vm.findClass RX7 = some m.cls := findClass_of_methodNamed B.named
  have hlocks := B.notSynchronized
  have hS : va_S nOne s.heap s.heap [] := va_S.rf
  have iX7 : ∀ w ∈ wsX70, w ∈ wz_X7_isWord := fun w h => List.mem_cons_of_mem _ (inlX7 w h)
  suffices hgo : ∀ Q : State → Prop, Q = MQ below (va_Qi (fun r (_ : Unit) => r = res) BN nOne) args s 0 0 nOne → W p l e (headSpec wz_X7_isWord r_X7_isWord).room s m args below meth c s.heap [] 0 0 Q (entryFrame m args 3) from hgo _ rfl
  intro Q hQ
  have w28 : ∀ (n : Nat), ∀ (x2 : Int32), ∀ (H : Heap) (locs : List Loc) (ls : Array Slot), f_X7_isWord_28 F sRd nTp fTp p1 n x2 = some res → va_P D vwCl (wRd K hRd aTp rRd4 sRd ++ wAB K aTp nTp fTp) H → va_S nOne s.heap H locs → lv_has ls 3 [(0, .ref (hRd 99)), (1, .ref (adK p1)), (2, .int x2)] → W p l e (headSpec wz_X7_isWord r_X7_isWord).room s m args below meth c H locs 0 0 Q (F0 m 28 ls []) := by
    intro n
    induction n with
    | zero =>
      intro x2 H locs ls hf
      exact absurd (show none = some res from hf) (fun h => nomatch h)
    | succ n ih =>
      intro x2 H locs ls hf hP hS hl
      rw [f_X7_isWord_28] at hf
      refine lv_iload_n hx hb dX7_isWord_28 rfl (lv_at hl 2 rfl) ?_
      refine lv_aload_n hx hb dX7_isWord_29 rfl (lv_at hl 1 rfl) ?_
      obtain ⟨g5, hf⟩ := gd_s hf
      refine roZ_Vi (As := []) (rest := [.int x2]) ⟨hx, hb, hml, hown, hts⟩ (c_J0_length_8abf5 l adK adV tF p1 (of_decide_eq_true g5)) (cwV 0 hts (gcV_J0_length_8abf5 (mB10 _ (List.mem_of_getElem? (i := 4) rfl))) rfl rfl rfl hdV_J0_length_8abf5 ⟨Nat.le_of_ble_eq_true rfl, Nat.le_of_ble_eq_true rfl⟩) hZ hS (vk_recv hZ.1 (of_decide_eq_true g5) hS) rfl hl.1 rfl (Nat.le_of_ble_eq_true rfl) dX7_isWord_30 ⟨Nat.zero_le _, Nat.zero_le _⟩ (fun H1 locs hk hS => ?_)
      have hP : va_P D vwCl (wRd K hRd aTp rRd4 sRd ++ wAB K aTp nTp fTp) H1 := hP.kept (fun k q h => hk q.1 (hP k q h).lt)
      generalize H1 = H at hP hS ⊢
      refine lv_topi (fun v6 ev6 => ?_)
      have hf := lz_s hf v6 ev6
      refine lv_icmp_ge (tgt := 63) hx hb dX7_isWord_33 (by decide) (fun c7 => ?_) (fun c7 => ?_)
      · have hf := it_t hf c7
        refine lv_iconst (v := (1 : Int32)) hx hb dX7_isWord_63 (by decide) ?_
        have e9 := Option.some.inj hf
        rw [hQ]
        exact W.zret (v := (1 : Int32)) hx hb hr rfl (fun t ht hW => ⟨⟨(1 : Int32), (), rfl, e9, trivial⟩, hS.F ht⟩) hS.2.2 dX7_isWord_64
      · have hf := it_f hf c7
        refine lv_aload_n hx hb dX7_isWord_36 rfl (lv_at hl 0 rfl) ?_
        refine va_get (D := D) (ci := 6) (v := .ref aTp) (C := RX7) (T := TX7) (N := 11) hx hb hts iX7 hown hK hP 0 (rwl o_Rd) rfl 2 (by decide) (htl _ (mB3 _ (List.mem_of_getElem? (i := 16) rfl))) (fun _ h9 => h9) rfl dX7_isWord_37 ?_
        refine lv_aload_n hx hb dX7_isWord_40 rfl (lv_at hl 0 rfl) ?_
        refine va_get (D := D) (ci := 6) (v := .int (sRd.1 6)) (C := RX7) (T := TX7) (N := 11) hx hb hts iX7 hown hK hP 0 (rwl o_Rd) rfl 6 (by decide) (htl _ (mB9 _ (List.mem_of_getElem? (i := 6) rfl))) (fun _ h9 => h9) rfl dX7_isWord_41 ?_
        refine lv_iload_n hx hb dX7_isWord_44 rfl (lv_at hl 2 rfl) ?_
        refine lv_iadd hx hb dX7_isWord_45 ?_
        obtain ⟨g8, hf⟩ := gd_s hf
        refine va_bald hx hb hK hP (3 + 0) 2 (f := fTp) (rwr ln_Rd o_AB) rfl (vpb_in g8) dX7_isWord_46 ?_
        refine lv_topi (fun v9 ev9 => ?_)
        have hf := lz_s hf v9 ev9
        refine lv_aload_n hx hb dX7_isWord_47 rfl (lv_at hl 1 rfl) ?_
        refine lv_iload_n hx hb dX7_isWord_48 rfl (lv_at hl 2 rfl) ?_
        obtain ⟨g10, hf⟩ := gd_s hf
        obtain ⟨g11, hf⟩ := gd_s hf
        refine roZ_Vi (As := [.int x2]) (rest := [.int v9]) ⟨hx, hb, hml, hown, hts⟩ (c_J0_charAt_5068e l adK adV tF p1 x2 (of_decide_eq_true g10) g11) (cwV 1 hts (gcV_J0_charAt_5068e (mB10 _ (List.mem_of_getElem? (i := 16) rfl))) rfl rfl rfl hdV_J0_charAt_5068e ⟨Nat.le_of_ble_eq_true rfl, Nat.le_of_ble_eq_true rfl⟩) hZ hS (vk_recv hZ.1 (of_decide_eq_true g10) hS) rfl hl.1 rfl (Nat.le_of_ble_eq_true rfl) dX7_isWord_49 ⟨Nat.zero_le _, Nat.zero_le _⟩ (fun H1 locs hk hS => ?_)
        have hP : va_P D vwCl (wRd K hRd aTp rRd4 sRd ++ wAB K aTp nTp fTp) H1 := hP.kept (fun k q h => hk q.1 (hP k q h).lt)
        generalize H1 = H at hP hS ⊢
        refine lv_topi (fun v12 ev12 => ?_)
        have hf := lz_s hf v12 ev12
        refine lv_icmp_eq (tgt := 57) hx hb dX7_isWord_52 (by decide) (fun c13 => ?_) (fun c13 => ?_)
        · have hf := it_t hf c13
          obtain ⟨v14, ev14⟩ : ∃ z : Int32, z = x2 + (1 : Int32) := ⟨_, rfl⟩
          have hf := lz_s hf v14 ev14
          refine lv_iinc (v := v14) (lv' := [(2, .int v14), (0, .ref (hRd 99)), (1, .ref (adK p1))]) hx hb dX7_isWord_57 hl (k := 2) rfl (by rw [ev14]; rfl) (by decide) rfl (fun ls hl => ?_)
          refine lv_goto (tgt := 28) hx hb dX7_isWord_60 (by decide) ?_
          exact ih v14 H locs ls hf hP hS (lv_sub hl [1, 2, 0] rfl)
        · have hf := it_f hf c13
          refine lv_iconst (v := (0 : Int32)) hx hb dX7_isWord_55 (by decide) ?_
          have e9 := Option.some.inj hf
          rw [hQ]
          exact W.zret (v := (0 : Int32)) hx hb hr rfl (fun t ht hW => ⟨⟨(0 : Int32), (), rfl, e9, trivial⟩, hS.F ht⟩) hS.2.2 dX7_isWord_56
  have hen : entryFrame m args 3 = entryFrame m (([.ref (hRd 99), .ref (adK p1)] : List Value).toArray) 3 := by rw [hargs]
  have hl := lv_entry ([.ref (hRd 99), .ref (adK p1)]) (n := 3) (Nat.le_of_ble_eq_true rfl)
  rw [hen, lg_entry_eq]
  generalize (lg_sl ([.ref (hRd 99), .ref (adK p1)]) ++ List.replicate (3 - (lg_sl ([.ref (hRd 99), .ref (adK p1)])).length) Slot.unset).toArray = ls at hl ⊢
  have hl : lv_has ls 3 [(0, .ref (hRd 99)), (1, .ref (adK p1))] := hl
  unfold f_X7_isWord at hf
  obtain ⟨H, hHe⟩ : ∃ z, z = s.heap := ⟨_, rfl⟩
  obtain ⟨locs, hLe⟩ : ∃ z : List Loc, z = [] := ⟨_, rfl⟩
  rw [← hLe]
  have hS : va_S nOne s.heap H locs := by rw [hHe, hLe]; exact hS
  have hP : va_P D vwCl (wRd K hRd aTp rRd4 sRd ++ wAB K aTp nTp fTp) H := by rw [hHe]; exact hP
  have hgo : W p l e (headSpec wz_X7_isWord r_X7_isWord).room s m args below meth c H locs 0 0 Q (F0 m 0 ls []) := by
    refine lv_aload_n hx hb dX7_isWord_0 rfl (lv_at hl 0 rfl) ?_
    refine va_get (D := D) (ci := 6) (v := .int (sRd.1 5)) (C := RX7) (T := TX7) (N := 11) hx hb hts iX7 hown hK hP 0 (rwl o_Rd) rfl 5 (by decide) (htl _ (mB8 _ (List.mem_of_getElem? (i := 7) rfl))) (fun _ h9 => h9) rfl dX7_isWord_1 ?_
    refine lv_iconst (v := (1 : Int32)) hx hb dX7_isWord_4 (by decide) ?_
    refine lv_icmp_ne (tgt := 24) hx hb dX7_isWord_5 (by decide) (fun c1 => ?_) (fun c1 => ?_)
    · have hf := it_f hf c1
      refine lv_iconst (v := (0 : Int32)) hx hb dX7_isWord_24 (by decide) ?_
      have e9 := Option.some.inj hf
      rw [hQ]
      exact W.zret (v := (0 : Int32)) hx hb hr rfl (fun t ht hW => ⟨⟨(0 : Int32), (), rfl, e9, trivial⟩, hS.F ht⟩) hS.2.2 dX7_isWord_25
    · have hf := it_t hf c1
      refine lv_aload_n hx hb dX7_isWord_8 rfl (lv_at hl 0 rfl) ?_
      refine va_get (D := D) (ci := 6) (v := .int (sRd.1 7)) (C := RX7) (T := TX7) (N := 11) hx hb hts iX7 hown hK hP 0 (rwl o_Rd) rfl 7 (by decide) (htl _ (mB8 _ (List.mem_of_getElem? (i := 6) rfl))) (fun _ h9 => h9) rfl dX7_isWord_9 ?_
      refine lv_aload_n hx hb dX7_isWord_12 rfl (lv_at hl 0 rfl) ?_
      refine va_get (D := D) (ci := 6) (v := .int (sRd.1 6)) (C := RX7) (T := TX7) (N := 11) hx hb hts iX7 hown hK hP 0 (rwl o_Rd) rfl 6 (by decide) (htl _ (mB9 _ (List.mem_of_getElem? (i := 6) rfl))) (fun _ h9 => h9) rfl dX7_isWord_13 ?_
      refine lv_isub hx hb dX7_isWord_16 ?_
      refine lv_aload_n hx hb dX7_isWord_17 rfl (lv_at hl 1 rfl) ?_
      obtain ⟨g2, hf⟩ := gd_s hf
      refine roZ_Vi (As := []) (rest := [.int ((sRd.1 7) - (sRd.1 6))]) ⟨hx, hb, hml, hown, hts⟩ (c_J0_length_8abf5 l adK adV tF p1 (of_decide_eq_true g2)) (cwV 0 hts (gcV_J0_length_8abf5 (mB10 _ (List.mem_of_getElem? (i := 4) rfl))) rfl rfl rfl hdV_J0_length_8abf5 ⟨Nat.le_of_ble_eq_true rfl, Nat.le_of_ble_eq_true rfl⟩) hZ hS (vk_recv hZ.1 (of_decide_eq_true g2) hS) rfl hl.1 rfl (Nat.le_of_ble_eq_true rfl) dX7_isWord_18 ⟨Nat.zero_le _, Nat.zero_le _⟩ (fun H1 locs hk hS => ?_)
      have hP : va_P D vwCl (wRd K hRd aTp rRd4 sRd ++ wAB K aTp nTp fTp) H1 := hP.kept (fun k q h => hk q.1 (hP k q h).lt)
      generalize H1 = H at hP hS ⊢
      refine lv_topi (fun v3 ev3 => ?_)
      have hf := lz_s hf v3 ev3
      refine lv_icmp_eq (tgt := 26) hx hb dX7_isWord_21 (by decide) (fun c4 => ?_) (fun c4 => ?_)
      · have hf := it_t hf c4
        refine lv_iconst (v := (0 : Int32)) hx hb dX7_isWord_26 (by decide) ?_
        refine lv_istore_n (lv' := [(2, .int (0 : Int32)), (0, .ref (hRd 99)), (1, .ref (adK p1))]) hx hb dX7_isWord_27 rfl hl (by decide) rfl (fun ls hl => ?_)
        exact w28 F (0 : Int32) H locs ls hf hP hS (lv_sub hl [1, 2, 0] rfl)
      · have hf := it_f hf c4
        refine lv_iconst (v := (0 : Int32)) hx hb dX7_isWord_24 (by decide) ?_
        have e9 := Option.some.inj hf
        rw [hQ]
        exact W.zret (v := (0 : Int32)) hx hb hr rfl (fun t ht hW => ⟨⟨(0 : Int32), (), rfl, e9, trivial⟩, hS.F ht⟩) hS.2.2 dX7_isWord_25
  rw [hHe] at hgo
  exact hgo

def wz_X7_failAt : List Cond := .code yX7_failAt cX7_failAt 3 (some .boolean) :: wsL_law
abbrev r_X7_failAt : Room := { frames := 0, cells := 0, slots := 0, locals := 0 }
set_option maxHeartbeats 4000000 in
set_option maxRecDepth 100000 in
theorem c_X7_failAt (l : Launch) (D : va_G) (K : Nat → ClassId) (F : Nat) (hRd : Nat → Nat) (rRd2 : Nat) (rRd4 : Nat) (sz : Nat) (sRd : MS) (p1 : Int32) (p2 : Int32) (res : Int32 × MS) (hf : f_X7_failAt F p1 p2 sRd = some res) : Met l yX7_failAt wz_X7_failAt r_X7_failAt (va_Pc [.ref (hRd 99), .int p1, .int p2] (PW D K (wRd K hRd rRd2 rRd4 sRd) sz)) (va_Qi (fun r u => r = res.1 ∧ u = res.2) (fun u t => BW D K (va_A (wRd K hRd rRd2 rRd4 sRd) sz) (wRd K hRd rRd2 rRd4 u) t) (va_A (wRd K hRd rRd2 rRd4 sRd) sz)) 0 0 (va_A (wRd K hRd rRd2 rRd4 sRd) sz) := by
  refine Met.ofW (cc := cX7_failAt) (maxL := 3) (ret := (some .boolean)) (by decide) rfl ?_
  intro p e s m args below meth c s₁ B hml hv
  obtain ⟨hargs, hsz, hP, hK, hD0⟩ := hv
  have hx := B.exec
  have hb := B.bytes
  have hr := B.returns
  have hts := atoms_spec (ws := wz_X7_failAt) B.pre
  have htl : ∀ w ∈ wsL_law, w.before args s = true := fun w h => hts w (List.mem_cons_of_mem _ h)
  have hown : s.vm.findClass RX7 = some m.cls := findClass_of_methodNamed B.named
  have hlocks := B.notSynchronized
  subst hsz
  have hD := hD0.self (sz := s.heap.size)
  generalize hAe : va_A (wRd K hRd rRd2 rRd4 sRd) s.heap.size = A at hD ⊢
  have hA : ∀ q : Nat, s.heap.size ≤ q → A q := fun q h => by rw [← hAe]; exact Or.inr h
  have hS : va_S A s.heap s.heap [] := va_S.rf
  have iX7 : ∀ w ∈ wsX70, w ∈ wz_X7_failAt := fun w h => List.mem_cons_of_mem _ (inlX7 w h)
  suffices hgo : ∀ Q : State → Prop, Q = MQ below (va_Qi (fun r u => r = res.1 ∧ u = res.2) (fun u t => BW D K A (wRd K hRd rRd2 rRd4 u) t) A) args s 0 0 A → W p l e (headSpec wz_X7_failAt r_X7_failAt).room s m args below meth c s.heap [] 0 0 Q (entryFrame m args 3) from hgo _ rfl
  intro Q hQ
  have hen : entryFrame m args 3 = entryFrame m (([.ref (hRd 99), .int p1, .int p2] : List Value).toArray) 3 := by rw [hargs]
  have hl := lv_entry ([.ref (hRd 99), .int p1, .int p2]) (n := 3) (Nat.le_of_ble_eq_true rfl)
  rw [hen, lg_entry_eq]
  generalize (lg_sl ([.ref (hRd 99), .int p1, .int p2]) ++ List.replicate (3 - (lg_sl ([.ref (hRd 99), .int p1, .int p2])).length) Slot.unset).toArray = ls at hl ⊢
  have hl : lv_has ls 3 [(0, .ref (hRd 99)), (1, .int p1), (2, .int p2)] := hl
  unfold f_X7_failAt at hf
  obtain ⟨H, hHe⟩ : ∃ z, z = s.heap := ⟨_, rfl⟩
  obtain ⟨locs, hLe⟩ : ∃ z : List Loc, z = [] := ⟨_, rfl⟩
  rw [← hLe]
  have hS : va_S A s.heap H locs := by rw [hHe, hLe]; exact hS
  have hP : va_P D vwCl (wRd K hRd rRd2 rRd4 sRd) H := by rw [hHe]; exact hP
  have hgo : W p l e (headSpec wz_X7_failAt r_X7_failAt).room s m args below meth c H locs 0 0 Q (F0 m 0 ls []) := by
    refine lv_aload_n hx hb dX7_failAt_0 rfl (lv_at hl 0 rfl) ?_
    refine lv_iload_n hx hb dX7_failAt_1 rfl (lv_at hl 1 rfl) ?_
    refine va_put (D := D) (ci := 6) (v := .int p1) (ty := .int) (C := RX7) (T := TX7) (N := 11) hx hb hts iX7 tyX7 tyX7_ok nmX7 hown hK hP hD hS 0 o_Rd rfl 0 (by decide) (htl _ (mB8 _ (List.mem_of_getElem? (i := 4) rfl))) (fun _ h9 => h9) rfl (by decide +kernel) rfl rfl (Nat.le_of_ble_eq_true rfl) dX7_failAt_2 (fun H locs hP hD hS => ?_)
    have hP := cvP si_Rd_0 hP
    have hD := cvD si_Rd_0 hD
    obtain ⟨s1, es1⟩ : ∃ z, z = sI sRd 0 p1 := ⟨_, rfl⟩
    have hP : va_P D vwCl (wRd K hRd rRd2 rRd4 s1) H := by rw [es1]; exact hP
    have hD : va_D A (wRd K hRd rRd2 rRd4 s1) := by rw [es1]; exact hD
    have hf := lz_s hf s1 es1
    refine lv_aload_n hx hb dX7_failAt_5 rfl (lv_at hl 0 rfl) ?_
    refine lv_iload_n hx hb dX7_failAt_6 rfl (lv_at hl 2 rfl) ?_
    refine va_put (D := D) (ci := 6) (v := .int p2) (ty := .int) (C := RX7) (T := TX7) (N := 11) hx hb hts iX7 tyX7 tyX7_ok nmX7 hown hK hP hD hS 0 o_Rd rfl 1 (by decide) (htl _ (mB8 _ (List.mem_of_getElem? (i := 5) rfl))) (fun _ h9 => h9) rfl (by decide +kernel) rfl rfl (Nat.le_of_ble_eq_true rfl) dX7_failAt_7 (fun H locs hP hD hS => ?_)
    have hP := cvP si_Rd_1 hP
    have hD := cvD si_Rd_1 hD
    obtain ⟨s2, es2⟩ : ∃ z, z = sI s1 1 p2 := ⟨_, rfl⟩
    have hP : va_P D vwCl (wRd K hRd rRd2 rRd4 s2) H := by rw [es2]; exact hP
    have hD : va_D A (wRd K hRd rRd2 rRd4 s2) := by rw [es2]; exact hD
    have hf := lz_s hf s2 es2
    refine lv_iconst (v := (0 : Int32)) hx hb dX7_failAt_10 (by decide) ?_
    have e9 := Option.some.inj hf
    rw [hQ]
    exact W.zret (v := (0 : Int32)) hx hb hr rfl (fun t ht hW => ⟨⟨(0 : Int32), s2, rfl, ⟨pr1 e9, pr2 e9⟩, ⟨by rw [ht]; exact hP, va_K.moved hW.alike hK, hD⟩⟩, hS.F ht⟩) hS.2.2 dX7_failAt_11
  rw [hHe] at hgo
  exact hgo

theorem gcV_X7_failAt {T0 : Cond} {own : String} {i : Nat} (h : Cond.methodLink own i yX7_failAt ∈ wsL_law) : GoodIn (T0 :: wsL_law) (wsV own i RX7 yX7_failAt wz_X7_failAt) := gV h (mB12 _ (List.mem_of_getElem? (i := 10) rfl)) (mB12 _ (List.mem_of_getElem? (i := 11) rfl)) (mB1 _ (List.mem_of_getElem? (i := 22) rfl)) (mB12 _ (List.mem_of_getElem? (i := 12) rfl))
theorem hdV_X7_failAt : yX7_failAt.cls = RX7 ∧ yX7_failAt.cls ≠ "java/lang/invoke/MethodHandle" ∧ yX7_failAt.cls ≠ "java/lang/invoke/VarHandle" ∧ (parseMethodDescriptor yX7_failAt.desc).map (fun d => d.parameters.length) = some 2 := by decide +kernel
def wz_X7_failWith : List Cond := .code yX7_failWith cX7_failWith 2 (some .boolean) :: wsL_law
abbrev r_X7_failWith : Room := { frames := 1, cells := 0, slots := 0, locals := 22 }
set_option maxHeartbeats 4000000 in
set_option maxRecDepth 100000 in
theorem c_X7_failWith (l : Launch) (D : va_G) (K : Nat → ClassId) (F : Nat) (hRd : Nat → Nat) (rRd2 : Nat) (rRd4 : Nat) (sz : Nat) (sRd : MS) (p1 : Int32) (res : Int32 × MS) (hf : f_X7_failWith F p1 sRd = some res) : Met l yX7_failWith wz_X7_failWith r_X7_failWith (va_Pc [.ref (hRd 99), .int p1] (PW D K (wRd K hRd rRd2 rRd4 sRd) sz)) (va_Qi (fun r u => r = res.1 ∧ u = res.2) (fun u t => BW D K (va_A (wRd K hRd rRd2 rRd4 sRd) sz) (wRd K hRd rRd2 rRd4 u) t) (va_A (wRd K hRd rRd2 rRd4 sRd) sz)) 0 0 (va_A (wRd K hRd rRd2 rRd4 sRd) sz) := by
  refine Met.ofW (cc := cX7_failWith) (maxL := 2) (ret := (some .boolean)) (by decide) rfl ?_
  intro p e s m args below meth c s₁ B hml hv
  obtain ⟨hargs, hsz, hP, hK, hD0⟩ := hv
  have hx := B.exec
  have hb := B.bytes
  have hr := B.returns
  have hts := atoms_spec (ws := wz_X7_failWith) B.pre
  have htl : ∀ w ∈ wsL_law, w.before args s = true := fun w h => hts w (List.mem_cons_of_mem _ h)
  have hown : s.vm.findClass RX7 = some m.cls := findClass_of_methodNamed B.named
  have hlocks := B.notSynchronized
  subst hsz
  have hD := hD0.self (sz := s.heap.size)
  generalize hAe : va_A (wRd K hRd rRd2 rRd4 sRd) s.heap.size = A at hD ⊢
  have hA : ∀ q : Nat, s.heap.size ≤ q → A q := fun q h => by rw [← hAe]; exact Or.inr h
  have hS : va_S A s.heap s.heap [] := va_S.rf
  have iX7 : ∀ w ∈ wsX70, w ∈ wz_X7_failWith := fun w h => List.mem_cons_of_mem _ (inlX7 w h)
  suffices hgo : ∀ Q : State → Prop, Q = MQ below (va_Qi (fun r u => r = res.1 ∧ u = res.2) (fun u t => BW D K A (wRd K hRd rRd2 rRd4 u) t) A) args s 0 0 A → W p l e (headSpec wz_X7_failWith r_X7_failWith).room s m args below meth c s.heap [] 0 0 Q (entryFrame m args 2) from hgo _ rfl
  intro Q hQ
  have hen : entryFrame m args 2 = entryFrame m (([.ref (hRd 99), .int p1] : List Value).toArray) 2 := by rw [hargs]
  have hl := lv_entry ([.ref (hRd 99), .int p1]) (n := 2) (Nat.le_of_ble_eq_true rfl)
  rw [hen, lg_entry_eq]
  generalize (lg_sl ([.ref (hRd 99), .int p1]) ++ List.replicate (2 - (lg_sl ([.ref (hRd 99), .int p1])).length) Slot.unset).toArray = ls at hl ⊢
  have hl : lv_has ls 2 [(0, .ref (hRd 99)), (1, .int p1)] := hl
  unfold f_X7_failWith at hf
  obtain ⟨H, hHe⟩ : ∃ z, z = s.heap := ⟨_, rfl⟩
  obtain ⟨locs, hLe⟩ : ∃ z : List Loc, z = [] := ⟨_, rfl⟩
  rw [← hLe]
  have hS : va_S A s.heap H locs := by rw [hHe, hLe]; exact hS
  have hP : va_P D vwCl (wRd K hRd rRd2 rRd4 sRd) H := by rw [hHe]; exact hP
  have hgo : W p l e (headSpec wz_X7_failWith r_X7_failWith).room s m args below meth c H locs 0 0 Q (F0 m 0 ls []) := by
    refine lv_aload_n hx hb dX7_failWith_0 rfl (lv_at hl 0 rfl) ?_
    refine lv_iload_n hx hb dX7_failWith_1 rfl (lv_at hl 1 rfl) ?_
    refine lv_aload_n hx hb dX7_failWith_2 rfl (lv_at hl 0 rfl) ?_
    refine va_get (D := D) (ci := 6) (v := .int (sRd.1 6)) (C := RX7) (T := TX7) (N := 11) hx hb hts iX7 hown hK hP 0 o_Rd rfl 6 (by decide) (htl _ (mB9 _ (List.mem_of_getElem? (i := 6) rfl))) (fun _ h9 => h9) rfl dX7_failWith_3 ?_
    obtain ⟨o1, go1, hf⟩ := bd_s hf
    refine rs_Vi (As := [.int p1, .int (sRd.1 6)]) (rest := []) ⟨hx, hb, hml, hown, hts⟩ (c_X7_failAt l D K F hRd rRd2 rRd4 H.size sRd p1 (sRd.1 6) o1 go1) (cwV 2 hts (gcV_X7_failAt (mB12 _ (List.mem_of_getElem? (i := 9) rfl))) rfl rfl rfl hdV_X7_failAt ⟨Nat.le_of_ble_eq_true rfl, Nat.le_of_ble_eq_true rfl⟩) hK hP hD hS hA (va_recv hK hP (ci := 6) (q0 := 0) rfl o_Rd) rfl hl.1 rfl (Nat.le_of_ble_eq_true rfl) dX7_failWith_6 ⟨Nat.zero_le _, Nat.zero_le _⟩ (fun H locs hP hD hS => ?_)
    have hP : va_P D vwCl (wRd K hRd rRd2 rRd4 o1.2) H := hP
    have hD : va_D A (wRd K hRd rRd2 rRd4 o1.2) := hD
    obtain ⟨g2, hf⟩ := gd_s hf
    have e9 := Option.some.inj hf
    rw [hQ]
    exact W.zret (v := o1.1) hx hb hr (bob_s g2) (fun t ht hW => ⟨⟨o1.1, o1.2, rfl, ⟨pr1 e9, pr2 e9⟩, ⟨by rw [ht]; exact hP, va_K.moved hW.alike hK, hD⟩⟩, hS.F ht⟩) hS.2.2 dX7_failWith_9
  rw [hHe] at hgo
  exact hgo

theorem gcV_X7_isWord {T0 : Cond} {own : String} {i : Nat} (h : Cond.methodLink own i yX7_isWord ∈ wsL_law) : GoodIn (T0 :: wsL_law) (wsV own i RX7 yX7_isWord wz_X7_isWord) := gV h (mB10 _ (List.mem_of_getElem? (i := 1) rfl)) (mB10 _ (List.mem_of_getElem? (i := 2) rfl)) (mB1 _ (List.mem_of_getElem? (i := 22) rfl)) (mB10 _ (List.mem_of_getElem? (i := 3) rfl))
theorem hdV_X7_isWord : yX7_isWord.cls = RX7 ∧ yX7_isWord.cls ≠ "java/lang/invoke/MethodHandle" ∧ yX7_isWord.cls ≠ "java/lang/invoke/VarHandle" ∧ (parseMethodDescriptor yX7_isWord.desc).map (fun d => d.parameters.length) = some 1 := by decide +kernel
theorem gcV_X7_lookOn {T0 : Cond} {own : String} {i : Nat} (h : Cond.methodLink own i yX7_lookOn ∈ wsL_law) : GoodIn (T0 :: wsL_law) (wsV own i RX7 yX7_lookOn wz_X7_lookOn) := gV h (mB9 _ (List.mem_of_getElem? (i := 3) rfl)) (mB9 _ (List.mem_of_getElem? (i := 4) rfl)) (mB1 _ (List.mem_of_getElem? (i := 22) rfl)) (mB9 _ (List.mem_of_getElem? (i := 5) rfl))
theorem hdV_X7_lookOn : yX7_lookOn.cls = RX7 ∧ yX7_lookOn.cls ≠ "java/lang/invoke/MethodHandle" ∧ yX7_lookOn.cls ≠ "java/lang/invoke/VarHandle" ∧ (parseMethodDescriptor yX7_lookOn.desc).map (fun d => d.parameters.length) = some 0 := by decide +kernel
theorem gcV_X7_failWith {T0 : Cond} {own : String} {i : Nat} (h : Cond.methodLink own i yX7_failWith ∈ wsL_law) : GoodIn (T0 :: wsL_law) (wsV own i RX7 yX7_failWith wz_X7_failWith) := gV h (mB12 _ (List.mem_of_getElem? (i := 6) rfl)) (mB12 _ (List.mem_of_getElem? (i := 7) rfl)) (mB1 _ (List.mem_of_getElem? (i := 22) rfl)) (mB12 _ (List.mem_of_getElem? (i := 8) rfl))
theorem hdV_X7_failWith : yX7_failWith.cls = RX7 ∧ yX7_failWith.cls ≠ "java/lang/invoke/MethodHandle" ∧ yX7_failWith.cls ≠ "java/lang/invoke/VarHandle" ∧ (parseMethodDescriptor yX7_failWith.desc).map (fun d => d.parameters.length) = some 1 := by decide +kernel
def wz_X7_passWord : List Cond := .code yX7_passWord cX7_passWord 2 (some .boolean) :: wsL_law
abbrev r_X7_passWord : Room := { frames := 5, cells := 0, slots := 0, locals := 107 }
set_option maxHeartbeats 4000000 in
set_option maxRecDepth 100000 in
theorem c_X7_passWord (l : Launch) (D : va_G) (K : Nat → ClassId) (F : Nat) (adK adV : Nat → Nat) (tF : Nat) (hRd : Nat → Nat) (rRd4 : Nat) (aTp nTp : Nat) (sz : Nat) (sRd : MS) (fTp : (Nat → Int32)) (p1 : Nat) (res : Int32 × MS) (hf : f_X7_passWord F nTp fTp p1 sRd = some res) : Met l yX7_passWord wz_X7_passWord r_X7_passWord (va_Pc [.ref (hRd 99), .ref (adK p1)] (PWz D K adK adV tF (wRd K hRd aTp rRd4 sRd ++ wAB K aTp nTp fTp) sz)) (va_Qi (fun r u => r = res.1 ∧ u = res.2) (fun u t => BW D K (va_A (wRd K hRd aTp rRd4 sRd ++ wAB K aTp nTp fTp) sz) (wRd K hRd aTp rRd4 u ++ wAB K aTp nTp fTp) t) (va_A (wRd K hRd aTp rRd4 sRd ++ wAB K aTp nTp fTp) sz)) 0 0 (va_A (wRd K hRd aTp rRd4 sRd ++ wAB K aTp nTp fTp) sz) := by
  refine Met.ofW (cc := cX7_passWord) (maxL := 2) (ret := (some .boolean)) (by decide) rfl ?_
  intro p e s m args below meth c s₁ B hml hv
  obtain ⟨hargs, ⟨hsz, hP, hK, hD0⟩, hZ⟩ := hv
  have hx := B.exec
  have hb := B.bytes
  have hr := B.returns
  have hts := atoms_spec (ws := wz_X7_passWord) B.pre
  have htl : ∀ w ∈ wsL_law, w.before args s = true := fun w h => hts w (List.mem_cons_of_mem _ h)
  have hown : s.vm.findClass RX7 = some m.cls := findClass_of_methodNamed B.named
  have hlocks := B.notSynchronized
  subst hsz
  have hD := hD0.self (sz := s.heap.size)
  generalize hAe : va_A (wRd K hRd aTp rRd4 sRd ++ wAB K aTp nTp fTp) s.heap.size = A at hD hZ ⊢
  have hA : ∀ q : Nat, s.heap.size ≤ q → A q := fun q h => by rw [← hAe]; exact Or.inr h
  have hS : va_S A s.heap s.heap [] := va_S.rf
  suffices hgo : ∀ Q : State → Prop, Q = MQ below (va_Qi (fun r u => r = res.1 ∧ u = res.2) (fun u t => BW D K A (wRd K hRd aTp rRd4 u ++ wAB K aTp nTp fTp) t) A) args s 0 0 A → W p l e (headSpec wz_X7_passWord r_X7_passWord).room s m args below meth c s.heap [] 0 0 Q (entryFrame m args 2) from hgo _ rfl
  intro Q hQ
  have hen : entryFrame m args 2 = entryFrame m (([.ref (hRd 99), .ref (adK p1)] : List Value).toArray) 2 := by rw [hargs]
  have hl := lv_entry ([.ref (hRd 99), .ref (adK p1)]) (n := 2) (Nat.le_of_ble_eq_true rfl)
  rw [hen, lg_entry_eq]
  generalize (lg_sl ([.ref (hRd 99), .ref (adK p1)]) ++ List.replicate (2 - (lg_sl ([.ref (hRd 99), .ref (adK p1)])).length) Slot.unset).toArray = ls at hl ⊢
  have hl : lv_has ls 2 [(0, .ref (hRd 99)), (1, .ref (adK p1))] := hl
  unfold f_X7_passWord at hf
  obtain ⟨H, hHe⟩ : ∃ z, z = s.heap := ⟨_, rfl⟩
  obtain ⟨locs, hLe⟩ : ∃ z : List Loc, z = [] := ⟨_, rfl⟩
  rw [← hLe]
  have hS : va_S A s.heap H locs := by rw [hHe, hLe]; exact hS
  have hP : va_P D vwCl (wRd K hRd aTp rRd4 sRd ++ wAB K aTp nTp fTp) H := by rw [hHe]; exact hP
  have hgo : W p l e (headSpec wz_X7_passWord r_X7_passWord).room s m args below meth c H locs 0 0 Q (F0 m 0 ls []) := by
    refine lv_aload_n hx hb dX7_passWord_0 rfl (lv_at hl 0 rfl) ?_
    refine lv_aload_n hx hb dX7_passWord_1 rfl (lv_at hl 1 rfl) ?_
    obtain ⟨o1, go1, hf⟩ := bd_s hf
    refine ro_Viz (As := [.ref (adK p1)]) (rest := []) ⟨hx, hb, hml, hown, hts⟩ (c_X7_isWord l D K F adK adV tF hRd rRd4 aTp nTp sRd fTp p1 o1 go1) (cwV 1 hts (gcV_X7_isWord (mB10 _ (List.mem_of_getElem? (i := 0) rfl))) rfl rfl rfl hdV_X7_isWord ⟨Nat.le_of_ble_eq_true rfl, Nat.le_of_ble_eq_true rfl⟩) hK hP hS hZ hP (va_recv hK hP (ci := 6) (q0 := 0) rfl (rwl o_Rd)) rfl hl.1 rfl (Nat.le_of_ble_eq_true rfl) dX7_passWord_2 ⟨Nat.zero_le _, Nat.zero_le _⟩ (fun H locs hP hS => ?_)
    refine lv_if_ne (tgt := 14) hx hb dX7_passWord_5 (by decide) (fun c2 => ?_) (fun c2 => ?_)
    · have hf := it_f hf c2
      refine lv_aload_n hx hb dX7_passWord_14 rfl (lv_at hl 0 rfl) ?_
      obtain ⟨o3, go3, hf⟩ := bd_s hf
      refine rs_Vv (As := []) (rest := []) ⟨hx, hb, hml, hown, hts⟩ (c_X7_lookOn l D K F hRd rRd4 aTp nTp H.size sRd fTp o3 go3) (cwV 0 hts (gcV_X7_lookOn (mB9 _ (List.mem_of_getElem? (i := 2) rfl))) rfl rfl rfl hdV_X7_lookOn ⟨Nat.le_of_ble_eq_true rfl, Nat.le_of_ble_eq_true rfl⟩) hK hP hD hS hA (va_recv hK hP (ci := 6) (q0 := 0) rfl (rwl o_Rd)) rfl hl.1 rfl (Nat.le_of_ble_eq_true rfl) dX7_passWord_15 ⟨Nat.zero_le _, Nat.zero_le _⟩ (fun H locs hP hD hS => ?_)
      have hP : va_P D vwCl (wRd K hRd aTp rRd4 o3 ++ wAB K aTp nTp fTp) H := hP
      have hD : va_D A (wRd K hRd aTp rRd4 o3 ++ wAB K aTp nTp fTp) := hD
      refine lv_iconst (v := (1 : Int32)) hx hb dX7_passWord_18 (by decide) ?_
      have e9 := Option.some.inj hf
      rw [hQ]
      exact W.zret (v := (1 : Int32)) hx hb hr rfl (fun t ht hW => ⟨⟨(1 : Int32), o3, rfl, ⟨pr1 e9, pr2 e9⟩, ⟨by rw [ht]; exact hP, va_K.moved hW.alike hK, hD⟩⟩, hS.F ht⟩) hS.2.2 dX7_passWord_19
    · have hf := it_t hf c2
      refine lv_aload_n hx hb dX7_passWord_8 rfl (lv_at hl 0 rfl) ?_
      refine lv_iconst (v := (1 : Int32)) hx hb dX7_passWord_9 (by decide) ?_
      obtain ⟨o4, go4, hf⟩ := bd_s hf
      refine rk_Vi (wn := wRd K hRd aTp rRd4 o4.2 ++ wAB K aTp nTp fTp) [wRd K hRd aTp rRd4 sRd, wAB K aTp nTp fTp] [wRd K hRd aTp rRd4 sRd] [wRd K hRd aTp rRd4 o4.2] [wRd K hRd aTp rRd4 o4.2, wAB K aTp nTp fTp] (As := [.int (1 : Int32)]) (rest := []) ⟨hx, hb, hml, hown, hts⟩ (c_X7_failWith l D K F hRd aTp rRd4 H.size sRd (1 : Int32) o4 go4) (cwV 1 hts (gcV_X7_failWith (mB12 _ (List.mem_of_getElem? (i := 5) rfl))) rfl rfl rfl hdV_X7_failWith ⟨Nat.le_of_ble_eq_true rfl, Nat.le_of_ble_eq_true rfl⟩) hK hP hD hS hA [0] (fl2 _ _) rfl (by decide) (fl1 _) (fl1 _) rfl rfl (fl2 _ _) (va_recv hK hP (ci := 6) (q0 := 0) rfl (rwl o_Rd)) rfl hl.1 rfl (Nat.le_of_ble_eq_true rfl) dX7_passWord_10 ⟨Nat.zero_le _, Nat.zero_le _⟩ (fun H locs hP hD hS => ?_)
      have hP : va_P D vwCl (wRd K hRd aTp rRd4 o4.2 ++ wAB K aTp nTp fTp) H := hP
      have hD : va_D A (wRd K hRd aTp rRd4 o4.2 ++ wAB K aTp nTp fTp) := hD
      obtain ⟨g5, hf⟩ := gd_s hf
      have e9 := Option.some.inj hf
      rw [hQ]
      exact W.zret (v := o4.1) hx hb hr (bob_s g5) (fun t ht hW => ⟨⟨o4.1, o4.2, rfl, ⟨pr1 e9, pr2 e9⟩, ⟨by rw [ht]; exact hP, va_K.moved hW.alike hK, hD⟩⟩, hS.F ht⟩) hS.2.2 dX7_passWord_13
  rw [hHe] at hgo
  exact hgo

def wz_X7_passWhole : List Cond := .code yX7_passWhole cX7_passWhole 4 (some .boolean) :: wsL_law
abbrev r_X7_passWhole : Room := { frames := 2, cells := 0, slots := 0, locals := 46 }
set_option maxHeartbeats 4000000 in
set_option maxRecDepth 100000 in
theorem c_X7_passWhole (l : Launch) (D : va_G) (K : Nat → ClassId) (F : Nat) (hRd : Nat → Nat) (rRd4 : Nat) (aTp nTp : Nat) (sz : Nat) (sRd : MS) (fTp : (Nat → Int32)) (p1 : Int32) (p2 : Int32) (res : Int32 × MS) (hf : f_X7_passWhole F nTp fTp p1 p2 sRd = some res) : Met l yX7_passWhole wz_X7_passWhole r_X7_passWhole (va_Pc [.ref (hRd 99), .int p1, .int p2] (PW D K (wRd K hRd aTp rRd4 sRd ++ wAB K aTp nTp fTp) sz)) (va_Qi (fun r u => r = res.1 ∧ u = res.2) (fun u t => BW D K (va_A (wRd K hRd aTp rRd4 sRd ++ wAB K aTp nTp fTp) sz) (wRd K hRd aTp rRd4 u ++ wAB K aTp nTp fTp) t) (va_A (wRd K hRd aTp rRd4 sRd ++ wAB K aTp nTp fTp) sz)) 0 0 (va_A (wRd K hRd aTp rRd4 sRd ++ wAB K aTp nTp fTp) sz) := by
  refine Met.ofW (cc := cX7_passWhole) (maxL := 4) (ret := (some .boolean)) (by decide) rfl ?_
  intro p e s m args below meth c s₁ B hml hv
  obtain ⟨hargs, hsz, hP, hK, hD0⟩ := hv
  have hx := B.exec
  have hb := B.bytes
  have hr := B.returns
  have hts := atoms_spec (ws := wz_X7_passWhole) B.pre
  have htl : ∀ w ∈ wsL_law, w.before args s = true := fun w h => hts w (List.mem_cons_of_mem _ h)
  have hown : s.vm.findClass RX7 = some m.cls := findClass_of_methodNamed B.named
  have hlocks := B.notSynchronized
  subst hsz
  have hD := hD0.self (sz := s.heap.size)
  generalize hAe : va_A (wRd K hRd aTp rRd4 sRd ++ wAB K aTp nTp fTp) s.heap.size = A at hD ⊢
  have hA : ∀ q : Nat, s.heap.size ≤ q → A q := fun q h => by rw [← hAe]; exact Or.inr h
  have hS : va_S A s.heap s.heap [] := va_S.rf
  have iX7 : ∀ w ∈ wsX70, w ∈ wz_X7_passWhole := fun w h => List.mem_cons_of_mem _ (inlX7 w h)
  suffices hgo : ∀ Q : State → Prop, Q = MQ below (va_Qi (fun r u => r = res.1 ∧ u = res.2) (fun u t => BW D K A (wRd K hRd aTp rRd4 u ++ wAB K aTp nTp fTp) t) A) args s 0 0 A → W p l e (headSpec wz_X7_passWhole r_X7_passWhole).room s m args below meth c s.heap [] 0 0 Q (entryFrame m args 4) from hgo _ rfl
  intro Q hQ
  have w75 : ∀ (sRd : MS), ∀ (H : Heap) (locs : List Loc) (ls : Array Slot), f_X7_passWhole_75 F nTp fTp p1 p2 sRd = some res → va_P D vwCl (wRd K hRd aTp rRd4 sRd ++ wAB K aTp nTp fTp) H → va_D A (wRd K hRd aTp rRd4 sRd ++ wAB K aTp nTp fTp) → va_S A s.heap H locs → lv_has ls 4 [(0, .ref (hRd 99))] → W p l e (headSpec wz_X7_passWhole r_X7_passWhole).room s m args below meth c H locs 0 0 Q (F0 m 75 ls []) := by
    intro sRd H locs ls hf hP hD hS hl
    unfold f_X7_passWhole_75 at hf
    refine lv_aload_n hx hb dX7_passWhole_75 rfl (lv_at hl 0 rfl) ?_
    refine lv_iconst (v := (4 : Int32)) hx hb dX7_passWhole_76 (by decide) ?_
    obtain ⟨o13, go13, hf⟩ := bd_s hf
    refine rk_Vi (wn := wRd K hRd aTp rRd4 o13.2 ++ wAB K aTp nTp fTp) [wRd K hRd aTp rRd4 sRd, wAB K aTp nTp fTp] [wRd K hRd aTp rRd4 sRd] [wRd K hRd aTp rRd4 o13.2] [wRd K hRd aTp rRd4 o13.2, wAB K aTp nTp fTp] (As := [.int (4 : Int32)]) (rest := []) ⟨hx, hb, hml, hown, hts⟩ (c_X7_failWith l D K F hRd aTp rRd4 H.size sRd (4 : Int32) o13 go13) (cwV 1 hts (gcV_X7_failWith (mB12 _ (List.mem_of_getElem? (i := 5) rfl))) rfl rfl rfl hdV_X7_failWith ⟨Nat.le_of_ble_eq_true rfl, Nat.le_of_ble_eq_true rfl⟩) hK hP hD hS hA [0] (fl2 _ _) rfl (by decide) (fl1 _) (fl1 _) rfl rfl (fl2 _ _) (va_recv hK hP (ci := 6) (q0 := 0) rfl (rwl o_Rd)) rfl hl.1 rfl (Nat.le_of_ble_eq_true rfl) dX7_passWhole_77 ⟨Nat.zero_le _, Nat.zero_le _⟩ (fun H locs hP hD hS => ?_)
    have hP : va_P D vwCl (wRd K hRd aTp rRd4 o13.2 ++ wAB K aTp nTp fTp) H := hP
    have hD : va_D A (wRd K hRd aTp rRd4 o13.2 ++ wAB K aTp nTp fTp) := hD
    obtain ⟨g14, hf⟩ := gd_s hf
    have e9 := Option.some.inj hf
    rw [hQ]
    exact W.zret (v := o13.1) hx hb hr (bob_s g14) (fun t ht hW => ⟨⟨o13.1, o13.2, rfl, ⟨pr1 e9, pr2 e9⟩, ⟨by rw [ht]; exact hP, va_K.moved hW.alike hK, hD⟩⟩, hS.F ht⟩) hS.2.2 dX7_passWhole_80
  have w59 : ∀ (sRd : MS), ∀ (H : Heap) (locs : List Loc) (ls : Array Slot), f_X7_passWhole_59 F nTp fTp p1 p2 sRd = some res → va_P D vwCl (wRd K hRd aTp rRd4 sRd ++ wAB K aTp nTp fTp) H → va_D A (wRd K hRd aTp rRd4 sRd ++ wAB K aTp nTp fTp) → va_S A s.heap H locs → lv_has ls 4 [(0, .ref (hRd 99)), (1, .int p1), (2, .int p2)] → W p l e (headSpec wz_X7_passWhole r_X7_passWhole).room s m args below meth c H locs 0 0 Q (F0 m 59 ls []) := by
    intro sRd H locs ls hf hP hD hS hl
    unfold f_X7_passWhole_59 at hf
    refine lv_aload_n hx hb dX7_passWhole_59 rfl (lv_at hl 0 rfl) ?_
    refine va_get (D := D) (ci := 6) (v := .int (sRd.1 8)) (C := RX7) (T := TX7) (N := 11) hx hb hts iX7 hown hK hP 0 (rwl o_Rd) rfl 8 (by decide) (htl _ (mB12 _ (List.mem_of_getElem? (i := 17) rfl))) (fun _ h9 => h9) rfl dX7_passWhole_60 ?_
    refine lv_iload_n hx hb dX7_passWhole_63 rfl (lv_at hl 1 rfl) ?_
    refine lv_icmp_lt (tgt := 75) hx hb dX7_passWhole_64 (by decide) (fun c10 => ?_) (fun c10 => ?_)
    · have hf := it_t hf c10
      exact w75 sRd H locs ls hf hP hD hS (lv_sub hl [0] rfl)
    · have hf := it_f hf c10
      refine lv_aload_n hx hb dX7_passWhole_67 rfl (lv_at hl 0 rfl) ?_
      refine va_get (D := D) (ci := 6) (v := .int (sRd.1 8)) (C := RX7) (T := TX7) (N := 11) hx hb hts iX7 hown hK hP 0 (rwl o_Rd) rfl 8 (by decide) (htl _ (mB12 _ (List.mem_of_getElem? (i := 17) rfl))) (fun _ h9 => h9) rfl dX7_passWhole_68 ?_
      refine lv_iload_n hx hb dX7_passWhole_71 rfl (lv_at hl 2 rfl) ?_
      refine lv_icmp_le (tgt := 81) hx hb dX7_passWhole_72 (by decide) (fun c11 => ?_) (fun c11 => ?_)
      · have hf := it_t hf c11
        refine lv_aload_n hx hb dX7_passWhole_81 rfl (lv_at hl 0 rfl) ?_
        obtain ⟨o12, go12, hf⟩ := bd_s hf
        refine rs_Vv (As := []) (rest := []) ⟨hx, hb, hml, hown, hts⟩ (c_X7_lookOn l D K F hRd rRd4 aTp nTp H.size sRd fTp o12 go12) (cwV 0 hts (gcV_X7_lookOn (mB9 _ (List.mem_of_getElem? (i := 2) rfl))) rfl rfl rfl hdV_X7_lookOn ⟨Nat.le_of_ble_eq_true rfl, Nat.le_of_ble_eq_true rfl⟩) hK hP hD hS hA (va_recv hK hP (ci := 6) (q0 := 0) rfl (rwl o_Rd)) rfl hl.1 rfl (Nat.le_of_ble_eq_true rfl) dX7_passWhole_82 ⟨Nat.zero_le _, Nat.zero_le _⟩ (fun H locs hP hD hS => ?_)
        have hP : va_P D vwCl (wRd K hRd aTp rRd4 o12 ++ wAB K aTp nTp fTp) H := hP
        have hD : va_D A (wRd K hRd aTp rRd4 o12 ++ wAB K aTp nTp fTp) := hD
        refine lv_iconst (v := (1 : Int32)) hx hb dX7_passWhole_85 (by decide) ?_
        have e9 := Option.some.inj hf
        rw [hQ]
        exact W.zret (v := (1 : Int32)) hx hb hr rfl (fun t ht hW => ⟨⟨(1 : Int32), o12, rfl, ⟨pr1 e9, pr2 e9⟩, ⟨by rw [ht]; exact hP, va_K.moved hW.alike hK, hD⟩⟩, hS.F ht⟩) hS.2.2 dX7_passWhole_86
      · have hf := it_f hf c11
        exact w75 sRd H locs ls hf hP hD hS (lv_sub hl [0] rfl)
  have w24 : ∀ (n : Nat), ∀ (x3 : Int32), ∀ (sRd : MS), ∀ (H : Heap) (locs : List Loc) (ls : Array Slot), f_X7_passWhole_24 F nTp fTp p1 p2 n x3 sRd = some res → va_P D vwCl (wRd K hRd aTp rRd4 sRd ++ wAB K aTp nTp fTp) H → va_D A (wRd K hRd aTp rRd4 sRd ++ wAB K aTp nTp fTp) → va_S A s.heap H locs → lv_has ls 4 [(0, .ref (hRd 99)), (1, .int p1), (2, .int p2), (3, .int x3)] → W p l e (headSpec wz_X7_passWhole r_X7_passWhole).room s m args below meth c H locs 0 0 Q (F0 m 24 ls []) := by
    intro n
    induction n with
    | zero =>
      intro x3 sRd H locs ls hf
      exact absurd (show none = some res from hf) (fun h => nomatch h)
    | succ n ih =>
      intro x3 sRd H locs ls hf hP hD hS hl
      rw [f_X7_passWhole_24] at hf
      refine lv_iload_n hx hb dX7_passWhole_24 rfl (lv_at hl 3 rfl) ?_
      refine lv_aload_n hx hb dX7_passWhole_25 rfl (lv_at hl 0 rfl) ?_
      refine va_get (D := D) (ci := 6) (v := .int (sRd.1 7)) (C := RX7) (T := TX7) (N := 11) hx hb hts iX7 hown hK hP 0 (rwl o_Rd) rfl 7 (by decide) (htl _ (mB8 _ (List.mem_of_getElem? (i := 6) rfl))) (fun _ h9 => h9) rfl dX7_passWhole_26 ?_
      refine lv_icmp_ge (tgt := 59) hx hb dX7_passWhole_29 (by decide) (fun c5 => ?_) (fun c5 => ?_)
      · have hf := it_t hf c5
        exact w59 sRd H locs ls hf hP hD hS (lv_sub hl [0, 1, 2] rfl)
      · have hf := it_f hf c5
        refine lv_aload_n hx hb dX7_passWhole_32 rfl (lv_at hl 0 rfl) ?_
        refine lv_aload_n hx hb dX7_passWhole_33 rfl (lv_at hl 0 rfl) ?_
        refine va_get (D := D) (ci := 6) (v := .int (sRd.1 8)) (C := RX7) (T := TX7) (N := 11) hx hb hts iX7 hown hK hP 0 (rwl o_Rd) rfl 8 (by decide) (htl _ (mB12 _ (List.mem_of_getElem? (i := 17) rfl))) (fun _ h9 => h9) rfl dX7_passWhole_34 ?_
        refine lv_bipush (v := (10 : Int32)) hx hb dX7_passWhole_37 (by decide) ?_
        refine lv_imul hx hb dX7_passWhole_39 ?_
        refine lv_aload_n hx hb dX7_passWhole_40 rfl (lv_at hl 0 rfl) ?_
        refine va_get (D := D) (ci := 6) (v := .ref aTp) (C := RX7) (T := TX7) (N := 11) hx hb hts iX7 hown hK hP 0 (rwl o_Rd) rfl 2 (by decide) (htl _ (mB3 _ (List.mem_of_getElem? (i := 16) rfl))) (fun _ h9 => h9) rfl dX7_passWhole_41 ?_
        refine lv_iload_n hx hb dX7_passWhole_44 rfl (lv_at hl 3 rfl) ?_
        obtain ⟨g6, hf⟩ := gd_s hf
        refine va_bald hx hb hK hP (3 + 0) 2 (f := fTp) (rwr ln_Rd o_AB) rfl (vpb_in g6) dX7_passWhole_45 ?_
        refine lv_iadd hx hb dX7_passWhole_46 ?_
        refine lv_topi (fun v7 ev7 => ?_)
        have hf := lz_s hf v7 ev7
        refine lv_bipush (v := (48 : Int32)) hx hb dX7_passWhole_47 (by decide) ?_
        refine lv_isub hx hb dX7_passWhole_49 ?_
        refine va_put (D := D) (ci := 6) (v := .int (v7 - (48 : Int32))) (ty := .int) (C := RX7) (T := TX7) (N := 11) hx hb hts iX7 tyX7 tyX7_ok nmX7 hown hK hP hD hS 0 (rwl o_Rd) rfl 8 (by decide) (htl _ (mB12 _ (List.mem_of_getElem? (i := 17) rfl))) (fun _ h9 => h9) rfl (by decide +kernel) rfl rfl (Nat.le_of_ble_eq_true rfl) dX7_passWhole_50 (fun H locs hP hD hS => ?_)
        have hP := cvP (stl si_Rd_8 (rlt o_Rd)) hP
        have hD := cvD (stl si_Rd_8 (rlt o_Rd)) hD
        obtain ⟨s8, es8⟩ : ∃ z, z = sI sRd 8 (v7 - (48 : Int32)) := ⟨_, rfl⟩
        have hP : va_P D vwCl (wRd K hRd aTp rRd4 s8 ++ wAB K aTp nTp fTp) H := by rw [es8]; exact hP
        have hD : va_D A (wRd K hRd aTp rRd4 s8 ++ wAB K aTp nTp fTp) := by rw [es8]; exact hD
        have hf := lz_s hf s8 es8
        obtain ⟨v9, ev9⟩ : ∃ z : Int32, z = x3 + (1 : Int32) := ⟨_, rfl⟩
        have hf := lz_s hf v9 ev9
        refine lv_iinc (v := v9) (lv' := [(3, .int v9), (0, .ref (hRd 99)), (1, .int p1), (2, .int p2)]) hx hb dX7_passWhole_53 hl (k := 3) rfl (by rw [ev9]; rfl) (by decide) rfl (fun ls hl => ?_)
        refine lv_goto (tgt := 24) hx hb dX7_passWhole_56 (by decide) ?_
        exact ih v9 s8 H locs ls hf hP hD hS (lv_sub hl [1, 2, 3, 0] rfl)
  have hen : entryFrame m args 4 = entryFrame m (([.ref (hRd 99), .int p1, .int p2] : List Value).toArray) 4 := by rw [hargs]
  have hl := lv_entry ([.ref (hRd 99), .int p1, .int p2]) (n := 4) (Nat.le_of_ble_eq_true rfl)
  rw [hen, lg_entry_eq]
  generalize (lg_sl ([.ref (hRd 99), .int p1, .int p2]) ++ List.replicate (4 - (lg_sl ([.ref (hRd 99), .int p1, .int p2])).length) Slot.unset).toArray = ls at hl ⊢
  have hl : lv_has ls 4 [(0, .ref (hRd 99)), (1, .int p1), (2, .int p2)] := hl
  unfold f_X7_passWhole at hf
  obtain ⟨H, hHe⟩ : ∃ z, z = s.heap := ⟨_, rfl⟩
  obtain ⟨locs, hLe⟩ : ∃ z : List Loc, z = [] := ⟨_, rfl⟩
  rw [← hLe]
  have hS : va_S A s.heap H locs := by rw [hHe, hLe]; exact hS
  have hP : va_P D vwCl (wRd K hRd aTp rRd4 sRd ++ wAB K aTp nTp fTp) H := by rw [hHe]; exact hP
  have hgo : W p l e (headSpec wz_X7_passWhole r_X7_passWhole).room s m args below meth c H locs 0 0 Q (F0 m 0 ls []) := by
    refine lv_aload_n hx hb dX7_passWhole_0 rfl (lv_at hl 0 rfl) ?_
    refine va_get (D := D) (ci := 6) (v := .int (sRd.1 5)) (C := RX7) (T := TX7) (N := 11) hx hb hts iX7 hown hK hP 0 (rwl o_Rd) rfl 5 (by decide) (htl _ (mB8 _ (List.mem_of_getElem? (i := 7) rfl))) (fun _ h9 => h9) rfl dX7_passWhole_1 ?_
    refine lv_iconst (v := (2 : Int32)) hx hb dX7_passWhole_4 (by decide) ?_
    refine lv_icmp_eq (tgt := 14) hx hb dX7_passWhole_5 (by decide) (fun c1 => ?_) (fun c1 => ?_)
    · have hf := it_t hf c1
      refine lv_aload_n hx hb dX7_passWhole_14 rfl (lv_at hl 0 rfl) ?_
      refine lv_iconst (v := (0 : Int32)) hx hb dX7_passWhole_15 (by decide) ?_
      refine va_put (D := D) (ci := 6) (v := .int (0 : Int32)) (ty := .int) (C := RX7) (T := TX7) (N := 11) hx hb hts iX7 tyX7 tyX7_ok nmX7 hown hK hP hD hS 0 (rwl o_Rd) rfl 8 (by decide) (htl _ (mB12 _ (List.mem_of_getElem? (i := 17) rfl))) (fun _ h9 => h9) rfl (by decide +kernel) rfl rfl (Nat.le_of_ble_eq_true rfl) dX7_passWhole_16 (fun H locs hP hD hS => ?_)
      have hP := cvP (stl si_Rd_8 (rlt o_Rd)) hP
      have hD := cvD (stl si_Rd_8 (rlt o_Rd)) hD
      obtain ⟨s2, es2⟩ : ∃ z, z = sI sRd 8 (0 : Int32) := ⟨_, rfl⟩
      have hP : va_P D vwCl (wRd K hRd aTp rRd4 s2 ++ wAB K aTp nTp fTp) H := by rw [es2]; exact hP
      have hD : va_D A (wRd K hRd aTp rRd4 s2 ++ wAB K aTp nTp fTp) := by rw [es2]; exact hD
      have hf := lz_s hf s2 es2
      refine lv_aload_n hx hb dX7_passWhole_19 rfl (lv_at hl 0 rfl) ?_
      refine va_get (D := D) (ci := 6) (v := .int (s2.1 6)) (C := RX7) (T := TX7) (N := 11) hx hb hts iX7 hown hK hP 0 (rwl o_Rd) rfl 6 (by decide) (htl _ (mB9 _ (List.mem_of_getElem? (i := 6) rfl))) (fun _ h9 => h9) rfl dX7_passWhole_20 ?_
      refine lv_istore_n (lv' := [(3, .int (s2.1 6)), (0, .ref (hRd 99)), (1, .int p1), (2, .int p2)]) hx hb dX7_passWhole_23 rfl hl (by decide) rfl (fun ls hl => ?_)
      exact w24 F (s2.1 6) s2 H locs ls hf hP hD hS (lv_sub hl [1, 2, 3, 0] rfl)
    · have hf := it_f hf c1
      refine lv_aload_n hx hb dX7_passWhole_8 rfl (lv_at hl 0 rfl) ?_
      refine lv_iconst (v := (1 : Int32)) hx hb dX7_passWhole_9 (by decide) ?_
      obtain ⟨o3, go3, hf⟩ := bd_s hf
      refine rk_Vi (wn := wRd K hRd aTp rRd4 o3.2 ++ wAB K aTp nTp fTp) [wRd K hRd aTp rRd4 sRd, wAB K aTp nTp fTp] [wRd K hRd aTp rRd4 sRd] [wRd K hRd aTp rRd4 o3.2] [wRd K hRd aTp rRd4 o3.2, wAB K aTp nTp fTp] (As := [.int (1 : Int32)]) (rest := []) ⟨hx, hb, hml, hown, hts⟩ (c_X7_failWith l D K F hRd aTp rRd4 H.size sRd (1 : Int32) o3 go3) (cwV 1 hts (gcV_X7_failWith (mB12 _ (List.mem_of_getElem? (i := 5) rfl))) rfl rfl rfl hdV_X7_failWith ⟨Nat.le_of_ble_eq_true rfl, Nat.le_of_ble_eq_true rfl⟩) hK hP hD hS hA [0] (fl2 _ _) rfl (by decide) (fl1 _) (fl1 _) rfl rfl (fl2 _ _) (va_recv hK hP (ci := 6) (q0 := 0) rfl (rwl o_Rd)) rfl hl.1 rfl (Nat.le_of_ble_eq_true rfl) dX7_passWhole_10 ⟨Nat.zero_le _, Nat.zero_le _⟩ (fun H locs hP hD hS => ?_)
      have hP : va_P D vwCl (wRd K hRd aTp rRd4 o3.2 ++ wAB K aTp nTp fTp) H := hP
      have hD : va_D A (wRd K hRd aTp rRd4 o3.2 ++ wAB K aTp nTp fTp) := hD
      obtain ⟨g4, hf⟩ := gd_s hf
      have e9 := Option.some.inj hf
      rw [hQ]
      exact W.zret (v := o3.1) hx hb hr (bob_s g4) (fun t ht hW => ⟨⟨o3.1, o3.2, rfl, ⟨pr1 e9, pr2 e9⟩, ⟨by rw [ht]; exact hP, va_K.moved hW.alike hK, hD⟩⟩, hS.F ht⟩) hS.2.2 dX7_passWhole_13
  rw [hHe] at hgo
  exact hgo

def wz_X7_isSign : List Cond := .code yX7_isSign cX7_isSign 2 (some .boolean) :: wsL_law
abbrev r_X7_isSign : Room := { frames := 0, cells := 0, slots := 0, locals := 0 }
set_option maxHeartbeats 4000000 in
set_option maxRecDepth 100000 in
theorem c_X7_isSign (l : Launch) (D : va_G) (K : Nat → ClassId) (F : Nat) (hRd : Nat → Nat) (rRd4 : Nat) (aTp nTp : Nat) (sRd : MS) (fTp : (Nat → Int32)) (p1 : Int32) (res : Int32) (hf : f_X7_isSign F sRd nTp fTp p1 = some res) : Met l yX7_isSign wz_X7_isSign r_X7_isSign (va_Pc [.ref (hRd 99), .int p1] (PR D K (wRd K hRd aTp rRd4 sRd ++ wAB K aTp nTp fTp))) (va_Qi (fun r (_ : Unit) => r = res) BN nOne) 0 0 nOne := by
  refine Met.ofW (cc := cX7_isSign) (maxL := 2) (ret := (some .boolean)) (by decide) rfl ?_
  intro p e s m args below meth c s₁ B hml hv
  obtain ⟨hargs, hP, hK⟩ := hv
  have hx := B.exec
  have hb := B.bytes
  have hr := B.returns
  have hts := atoms_spec (ws := wz_X7_isSign) B.pre
  have htl : ∀ w ∈ wsL_law, w.before args s = true := fun w h => hts w (List.mem_cons_of_mem _ h)
  have hown : s.vm.findClass RX7 = some m.cls := findClass_of_methodNamed B.named
  have hlocks := B.notSynchronized
  have hS : va_S nOne s.heap s.heap [] := va_S.rf
  have iX7 : ∀ w ∈ wsX70, w ∈ wz_X7_isSign := fun w h => List.mem_cons_of_mem _ (inlX7 w h)
  suffices hgo : ∀ Q : State → Prop, Q = MQ below (va_Qi (fun r (_ : Unit) => r = res) BN nOne) args s 0 0 nOne → W p l e (headSpec wz_X7_isSign r_X7_isSign).room s m args below meth c s.heap [] 0 0 Q (entryFrame m args 2) from hgo _ rfl
  intro Q hQ
  have hen : entryFrame m args 2 = entryFrame m (([.ref (hRd 99), .int p1] : List Value).toArray) 2 := by rw [hargs]
  have hl := lv_entry ([.ref (hRd 99), .int p1]) (n := 2) (Nat.le_of_ble_eq_true rfl)
  rw [hen, lg_entry_eq]
  generalize (lg_sl ([.ref (hRd 99), .int p1]) ++ List.replicate (2 - (lg_sl ([.ref (hRd 99), .int p1])).length) Slot.unset).toArray = ls at hl ⊢
  have hl : lv_has ls 2 [(0, .ref (hRd 99)), (1, .int p1)] := hl
  unfold f_X7_isSign at hf
  obtain ⟨H, hHe⟩ : ∃ z, z = s.heap := ⟨_, rfl⟩
  obtain ⟨locs, hLe⟩ : ∃ z : List Loc, z = [] := ⟨_, rfl⟩
  rw [← hLe]
  have hS : va_S nOne s.heap H locs := by rw [hHe, hLe]; exact hS
  have hP : va_P D vwCl (wRd K hRd aTp rRd4 sRd ++ wAB K aTp nTp fTp) H := by rw [hHe]; exact hP
  have hgo : W p l e (headSpec wz_X7_isSign r_X7_isSign).room s m args below meth c H locs 0 0 Q (F0 m 0 ls []) := by
    refine lv_aload_n hx hb dX7_isSign_0 rfl (lv_at hl 0 rfl) ?_
    refine va_get (D := D) (ci := 6) (v := .int (sRd.1 5)) (C := RX7) (T := TX7) (N := 11) hx hb hts iX7 hown hK hP 0 (rwl o_Rd) rfl 5 (by decide) (htl _ (mB8 _ (List.mem_of_getElem? (i := 7) rfl))) (fun _ h9 => h9) rfl dX7_isSign_1 ?_
    refine lv_iconst (v := (3 : Int32)) hx hb dX7_isSign_4 (by decide) ?_
    refine lv_icmp_ne (tgt := 25) hx hb dX7_isSign_5 (by decide) (fun c1 => ?_) (fun c1 => ?_)
    · have hf := it_f hf c1
      refine lv_iconst (v := (0 : Int32)) hx hb dX7_isSign_25 (by decide) ?_
      have e9 := Option.some.inj hf
      rw [hQ]
      exact W.zret (v := (0 : Int32)) hx hb hr rfl (fun t ht hW => ⟨⟨(0 : Int32), (), rfl, e9, trivial⟩, hS.F ht⟩) hS.2.2 dX7_isSign_26
    · have hf := it_t hf c1
      refine lv_aload_n hx hb dX7_isSign_8 rfl (lv_at hl 0 rfl) ?_
      refine va_get (D := D) (ci := 6) (v := .ref aTp) (C := RX7) (T := TX7) (N := 11) hx hb hts iX7 hown hK hP 0 (rwl o_Rd) rfl 2 (by decide) (htl _ (mB3 _ (List.mem_of_getElem? (i := 16) rfl))) (fun _ h9 => h9) rfl dX7_isSign_9 ?_
      refine lv_aload_n hx hb dX7_isSign_12 rfl (lv_at hl 0 rfl) ?_
      refine va_get (D := D) (ci := 6) (v := .int (sRd.1 6)) (C := RX7) (T := TX7) (N := 11) hx hb hts iX7 hown hK hP 0 (rwl o_Rd) rfl 6 (by decide) (htl _ (mB9 _ (List.mem_of_getElem? (i := 6) rfl))) (fun _ h9 => h9) rfl dX7_isSign_13 ?_
      obtain ⟨g2, hf⟩ := gd_s hf
      refine va_bald hx hb hK hP (3 + 0) 2 (f := fTp) (rwr ln_Rd o_AB) rfl (vpb_in g2) dX7_isSign_16 ?_
      refine lv_iload_n hx hb dX7_isSign_17 rfl (lv_at hl 1 rfl) ?_
      refine lv_icmp_ne (tgt := 25) hx hb dX7_isSign_18 (by decide) (fun c3 => ?_) (fun c3 => ?_)
      · have hf := it_f hf c3
        refine lv_iconst (v := (0 : Int32)) hx hb dX7_isSign_25 (by decide) ?_
        have e9 := Option.some.inj hf
        rw [hQ]
        exact W.zret (v := (0 : Int32)) hx hb hr rfl (fun t ht hW => ⟨⟨(0 : Int32), (), rfl, e9, trivial⟩, hS.F ht⟩) hS.2.2 dX7_isSign_26
      · have hf := it_t hf c3
        refine lv_iconst (v := (1 : Int32)) hx hb dX7_isSign_21 (by decide) ?_
        refine lv_goto (tgt := 26) hx hb dX7_isSign_22 (by decide) ?_
        have e9 := Option.some.inj hf
        rw [hQ]
        exact W.zret (v := (1 : Int32)) hx hb hr rfl (fun t ht hW => ⟨⟨(1 : Int32), (), rfl, e9, trivial⟩, hS.F ht⟩) hS.2.2 dX7_isSign_26
  rw [hHe] at hgo
  exact hgo

theorem gcV_X7_isSign {T0 : Cond} {own : String} {i : Nat} (h : Cond.methodLink own i yX7_isSign ∈ wsL_law) : GoodIn (T0 :: wsL_law) (wsV own i RX7 yX7_isSign wz_X7_isSign) := gV h (mB13 _ (List.mem_of_getElem? (i := 11) rfl)) (mB13 _ (List.mem_of_getElem? (i := 12) rfl)) (mB1 _ (List.mem_of_getElem? (i := 22) rfl)) (mB13 _ (List.mem_of_getElem? (i := 13) rfl))
theorem hdV_X7_isSign : yX7_isSign.cls = RX7 ∧ yX7_isSign.cls ≠ "java/lang/invoke/MethodHandle" ∧ yX7_isSign.cls ≠ "java/lang/invoke/VarHandle" ∧ (parseMethodDescriptor yX7_isSign.desc).map (fun d => d.parameters.length) = some 1 := by decide +kernel
def wz_X7_passSign : List Cond := .code yX7_passSign cX7_passSign 2 (some .boolean) :: wsL_law
abbrev r_X7_passSign : Room := { frames := 2, cells := 0, slots := 0, locals := 46 }
set_option maxHeartbeats 4000000 in
set_option maxRecDepth 100000 in
theorem c_X7_passSign (l : Launch) (D : va_G) (K : Nat → ClassId) (F : Nat) (hRd : Nat → Nat) (rRd4 : Nat) (aTp nTp : Nat) (sz : Nat) (sRd : MS) (fTp : (Nat → Int32)) (p1 : Int32) (res : Int32 × MS) (hf : f_X7_passSign F nTp fTp p1 sRd = some res) : Met l yX7_passSign wz_X7_passSign r_X7_passSign (va_Pc [.ref (hRd 99), .int p1] (PW D K (wRd K hRd aTp rRd4 sRd ++ wAB K aTp nTp fTp) sz)) (va_Qi (fun r u => r = res.1 ∧ u = res.2) (fun u t => BW D K (va_A (wRd K hRd aTp rRd4 sRd ++ wAB K aTp nTp fTp) sz) (wRd K hRd aTp rRd4 u ++ wAB K aTp nTp fTp) t) (va_A (wRd K hRd aTp rRd4 sRd ++ wAB K aTp nTp fTp) sz)) 0 0 (va_A (wRd K hRd aTp rRd4 sRd ++ wAB K aTp nTp fTp) sz) := by
  refine Met.ofW (cc := cX7_passSign) (maxL := 2) (ret := (some .boolean)) (by decide) rfl ?_
  intro p e s m args below meth c s₁ B hml hv
  obtain ⟨hargs, hsz, hP, hK, hD0⟩ := hv
  have hx := B.exec
  have hb := B.bytes
  have hr := B.returns
  have hts := atoms_spec (ws := wz_X7_passSign) B.pre
  have htl : ∀ w ∈ wsL_law, w.before args s = true := fun w h => hts w (List.mem_cons_of_mem _ h)
  have hown : s.vm.findClass RX7 = some m.cls := findClass_of_methodNamed B.named
  have hlocks := B.notSynchronized
  subst hsz
  have hD := hD0.self (sz := s.heap.size)
  generalize hAe : va_A (wRd K hRd aTp rRd4 sRd ++ wAB K aTp nTp fTp) s.heap.size = A at hD ⊢
  have hA : ∀ q : Nat, s.heap.size ≤ q → A q := fun q h => by rw [← hAe]; exact Or.inr h
  have hS : va_S A s.heap s.heap [] := va_S.rf
  suffices hgo : ∀ Q : State → Prop, Q = MQ below (va_Qi (fun r u => r = res.1 ∧ u = res.2) (fun u t => BW D K A (wRd K hRd aTp rRd4 u ++ wAB K aTp nTp fTp) t) A) args s 0 0 A → W p l e (headSpec wz_X7_passSign r_X7_passSign).room s m args below meth c s.heap [] 0 0 Q (entryFrame m args 2) from hgo _ rfl
  intro Q hQ
  have hen : entryFrame m args 2 = entryFrame m (([.ref (hRd 99), .int p1] : List Value).toArray) 2 := by rw [hargs]
  have hl := lv_entry ([.ref (hRd 99), .int p1]) (n := 2) (Nat.le_of_ble_eq_true rfl)
  rw [hen, lg_entry_eq]
  generalize (lg_sl ([.ref (hRd 99), .int p1]) ++ List.replicate (2 - (lg_sl ([.ref (hRd 99), .int p1])).length) Slot.unset).toArray = ls at hl ⊢
  have hl : lv_has ls 2 [(0, .ref (hRd 99)), (1, .int p1)] := hl
  unfold f_X7_passSign at hf
  obtain ⟨H, hHe⟩ : ∃ z, z = s.heap := ⟨_, rfl⟩
  obtain ⟨locs, hLe⟩ : ∃ z : List Loc, z = [] := ⟨_, rfl⟩
  rw [← hLe]
  have hS : va_S A s.heap H locs := by rw [hHe, hLe]; exact hS
  have hP : va_P D vwCl (wRd K hRd aTp rRd4 sRd ++ wAB K aTp nTp fTp) H := by rw [hHe]; exact hP
  have hgo : W p l e (headSpec wz_X7_passSign r_X7_passSign).room s m args below meth c H locs 0 0 Q (F0 m 0 ls []) := by
    refine lv_aload_n hx hb dX7_passSign_0 rfl (lv_at hl 0 rfl) ?_
    refine lv_iload_n hx hb dX7_passSign_1 rfl (lv_at hl 1 rfl) ?_
    obtain ⟨o1, go1, hf⟩ := bd_s hf
    refine ro_Vi (As := [.int p1]) (rest := []) ⟨hx, hb, hml, hown, hts⟩ (c_X7_isSign l D K F hRd rRd4 aTp nTp sRd fTp p1 o1 go1) (cwV 1 hts (gcV_X7_isSign (mB13 _ (List.mem_of_getElem? (i := 10) rfl))) rfl rfl rfl hdV_X7_isSign ⟨Nat.le_of_ble_eq_true rfl, Nat.le_of_ble_eq_true rfl⟩) hK hP hS hP (va_recv hK hP (ci := 6) (q0 := 0) rfl (rwl o_Rd)) rfl hl.1 rfl (Nat.le_of_ble_eq_true rfl) dX7_passSign_2 ⟨Nat.zero_le _, Nat.zero_le _⟩ (fun H locs hP hS => ?_)
    refine lv_if_ne (tgt := 14) hx hb dX7_passSign_5 (by decide) (fun c2 => ?_) (fun c2 => ?_)
    · have hf := it_f hf c2
      refine lv_aload_n hx hb dX7_passSign_14 rfl (lv_at hl 0 rfl) ?_
      obtain ⟨o3, go3, hf⟩ := bd_s hf
      refine rs_Vv (As := []) (rest := []) ⟨hx, hb, hml, hown, hts⟩ (c_X7_lookOn l D K F hRd rRd4 aTp nTp H.size sRd fTp o3 go3) (cwV 0 hts (gcV_X7_lookOn (mB9 _ (List.mem_of_getElem? (i := 2) rfl))) rfl rfl rfl hdV_X7_lookOn ⟨Nat.le_of_ble_eq_true rfl, Nat.le_of_ble_eq_true rfl⟩) hK hP hD hS hA (va_recv hK hP (ci := 6) (q0 := 0) rfl (rwl o_Rd)) rfl hl.1 rfl (Nat.le_of_ble_eq_true rfl) dX7_passSign_15 ⟨Nat.zero_le _, Nat.zero_le _⟩ (fun H locs hP hD hS => ?_)
      have hP : va_P D vwCl (wRd K hRd aTp rRd4 o3 ++ wAB K aTp nTp fTp) H := hP
      have hD : va_D A (wRd K hRd aTp rRd4 o3 ++ wAB K aTp nTp fTp) := hD
      refine lv_iconst (v := (1 : Int32)) hx hb dX7_passSign_18 (by decide) ?_
      have e9 := Option.some.inj hf
      rw [hQ]
      exact W.zret (v := (1 : Int32)) hx hb hr rfl (fun t ht hW => ⟨⟨(1 : Int32), o3, rfl, ⟨pr1 e9, pr2 e9⟩, ⟨by rw [ht]; exact hP, va_K.moved hW.alike hK, hD⟩⟩, hS.F ht⟩) hS.2.2 dX7_passSign_19
    · have hf := it_t hf c2
      refine lv_aload_n hx hb dX7_passSign_8 rfl (lv_at hl 0 rfl) ?_
      refine lv_iconst (v := (1 : Int32)) hx hb dX7_passSign_9 (by decide) ?_
      obtain ⟨o4, go4, hf⟩ := bd_s hf
      refine rk_Vi (wn := wRd K hRd aTp rRd4 o4.2 ++ wAB K aTp nTp fTp) [wRd K hRd aTp rRd4 sRd, wAB K aTp nTp fTp] [wRd K hRd aTp rRd4 sRd] [wRd K hRd aTp rRd4 o4.2] [wRd K hRd aTp rRd4 o4.2, wAB K aTp nTp fTp] (As := [.int (1 : Int32)]) (rest := []) ⟨hx, hb, hml, hown, hts⟩ (c_X7_failWith l D K F hRd aTp rRd4 H.size sRd (1 : Int32) o4 go4) (cwV 1 hts (gcV_X7_failWith (mB12 _ (List.mem_of_getElem? (i := 5) rfl))) rfl rfl rfl hdV_X7_failWith ⟨Nat.le_of_ble_eq_true rfl, Nat.le_of_ble_eq_true rfl⟩) hK hP hD hS hA [0] (fl2 _ _) rfl (by decide) (fl1 _) (fl1 _) rfl rfl (fl2 _ _) (va_recv hK hP (ci := 6) (q0 := 0) rfl (rwl o_Rd)) rfl hl.1 rfl (Nat.le_of_ble_eq_true rfl) dX7_passSign_10 ⟨Nat.zero_le _, Nat.zero_le _⟩ (fun H locs hP hD hS => ?_)
      have hP : va_P D vwCl (wRd K hRd aTp rRd4 o4.2 ++ wAB K aTp nTp fTp) H := hP
      have hD : va_D A (wRd K hRd aTp rRd4 o4.2 ++ wAB K aTp nTp fTp) := hD
      obtain ⟨g5, hf⟩ := gd_s hf
      have e9 := Option.some.inj hf
      rw [hQ]
      exact W.zret (v := o4.1) hx hb hr (bob_s g5) (fun t ht hW => ⟨⟨o4.1, o4.2, rfl, ⟨pr1 e9, pr2 e9⟩, ⟨by rw [ht]; exact hP, va_K.moved hW.alike hK, hD⟩⟩, hS.F ht⟩) hS.2.2 dX7_passSign_13
  rw [hHe] at hgo
  exact hgo

theorem gcV_X7_passWord {T0 : Cond} {own : String} {i : Nat} (h : Cond.methodLink own i yX7_passWord ∈ wsL_law) : GoodIn (T0 :: wsL_law) (wsV own i RX7 yX7_passWord wz_X7_passWord) := gV h (mB12 _ (List.mem_of_getElem? (i := 23) rfl)) (mB13 _ (List.mem_of_getElem? (i := 0) rfl)) (mB1 _ (List.mem_of_getElem? (i := 22) rfl)) (mB13 _ (List.mem_of_getElem? (i := 1) rfl))
theorem hdV_X7_passWord : yX7_passWord.cls = RX7 ∧ yX7_passWord.cls ≠ "java/lang/invoke/MethodHandle" ∧ yX7_passWord.cls ≠ "java/lang/invoke/VarHandle" ∧ (parseMethodDescriptor yX7_passWord.desc).map (fun d => d.parameters.length) = some 1 := by decide +kernel
theorem gcV_X7_passWhole {T0 : Cond} {own : String} {i : Nat} (h : Cond.methodLink own i yX7_passWhole ∈ wsL_law) : GoodIn (T0 :: wsL_law) (wsV own i RX7 yX7_passWhole wz_X7_passWhole) := gV h (mB13 _ (List.mem_of_getElem? (i := 3) rfl)) (mB13 _ (List.mem_of_getElem? (i := 4) rfl)) (mB1 _ (List.mem_of_getElem? (i := 22) rfl)) (mB13 _ (List.mem_of_getElem? (i := 5) rfl))
theorem hdV_X7_passWhole : yX7_passWhole.cls = RX7 ∧ yX7_passWhole.cls ≠ "java/lang/invoke/MethodHandle" ∧ yX7_passWhole.cls ≠ "java/lang/invoke/VarHandle" ∧ (parseMethodDescriptor yX7_passWhole.desc).map (fun d => d.parameters.length) = some 2 := by decide +kernel
theorem gcV_X7_passSign {T0 : Cond} {own : String} {i : Nat} (h : Cond.methodLink own i yX7_passSign ∈ wsL_law) : GoodIn (T0 :: wsL_law) (wsV own i RX7 yX7_passSign wz_X7_passSign) := gV h (mB13 _ (List.mem_of_getElem? (i := 7) rfl)) (mB13 _ (List.mem_of_getElem? (i := 8) rfl)) (mB1 _ (List.mem_of_getElem? (i := 22) rfl)) (mB13 _ (List.mem_of_getElem? (i := 9) rfl))
theorem hdV_X7_passSign : yX7_passSign.cls = RX7 ∧ yX7_passSign.cls ≠ "java/lang/invoke/MethodHandle" ∧ yX7_passSign.cls ≠ "java/lang/invoke/VarHandle" ∧ (parseMethodDescriptor yX7_passSign.desc).map (fun d => d.parameters.length) = some 1 := by decide +kernel
def wz_X7_readCar : List Cond := .code yX7_readCar cX7_readCar 2 (some .boolean) :: wsL_law
abbrev r_X7_readCar : Room := { frames := 6, cells := 0, slots := 0, locals := 128 }
set_option maxHeartbeats 4000000 in
set_option maxRecDepth 100000 in
theorem c_X7_readCar (l : Launch) (D : va_G) (K : Nat → ClassId) (F : Nat) (adK adV : Nat → Nat) (tF : Nat) (hRd : Nat → Nat) (aTp nTp : Nat) (hRo : Nat → Nat) (sz : Nat) (sRd : MS) (fTp : (Nat → Int32)) (sRo : MS) (res : Int32 × MS × MS) (hf : f_X7_readCar F nTp fTp sRd sRo = some res) : Met l yX7_readCar wz_X7_readCar r_X7_readCar (va_Pc [.ref (hRd 99)] (PWz D K adK adV tF (wRd K hRd aTp (hRo 99) sRd ++ wAB K aTp nTp fTp ++ wRo K hRo sRo) sz)) (va_Qi (fun r u => r = res.1 ∧ u = res.2) (fun u t => BW D K (va_A (wRd K hRd aTp (hRo 99) sRd ++ wAB K aTp nTp fTp ++ wRo K hRo sRo) sz) (wRd K hRd aTp (hRo 99) u.1 ++ wAB K aTp nTp fTp ++ wRo K hRo u.2) t) (va_A (wRd K hRd aTp (hRo 99) sRd ++ wAB K aTp nTp fTp ++ wRo K hRo sRo) sz)) 0 0 (va_A (wRd K hRd aTp (hRo 99) sRd ++ wAB K aTp nTp fTp ++ wRo K hRo sRo) sz) := by
  refine Met.ofW (cc := cX7_readCar) (maxL := 2) (ret := (some .boolean)) (by decide) rfl ?_
  intro p e s m args below meth c s₁ B hml hv
  obtain ⟨hargs, ⟨hsz, hP, hK, hD0⟩, hZ⟩ := hv
  have hx := B.exec
  have hb := B.bytes
  have hr := B.returns
  have hts := atoms_spec (ws := wz_X7_readCar) B.pre
  have htl : ∀ w ∈ wsL_law, w.before args s = true := fun w h => hts w (List.mem_cons_of_mem _ h)
  have hown : s.vm.findClass RX7 = some m.cls := findClass_of_methodNamed B.named
  have hlocks := B.notSynchronized
  subst hsz
  have hD := hD0.self (sz := s.heap.size)
  generalize hAe : va_A (wRd K hRd aTp (hRo 99) sRd ++ wAB K aTp nTp fTp ++ wRo K hRo sRo) s.heap.size = A at hD hZ ⊢
  have hA : ∀ q : Nat, s.heap.size ≤ q → A q := fun q h => by rw [← hAe]; exact Or.inr h
  have hS : va_S A s.heap s.heap [] := va_S.rf
  have iX7 : ∀ w ∈ wsX70, w ∈ wz_X7_readCar := fun w h => List.mem_cons_of_mem _ (inlX7 w h)
  have iX9 : ∀ w ∈ wsX90, w ∈ wz_X7_readCar := fun w h => List.mem_cons_of_mem _ (inlX9 w h)
  suffices hgo : ∀ Q : State → Prop, Q = MQ below (va_Qi (fun r u => r = res.1 ∧ u = res.2) (fun u t => BW D K A (wRd K hRd aTp (hRo 99) u.1 ++ wAB K aTp nTp fTp ++ wRo K hRo u.2) t) A) args s 0 0 A → W p l e (headSpec wz_X7_readCar r_X7_readCar).room s m args below meth c s.heap [] 0 0 Q (entryFrame m args 2) from hgo _ rfl
  intro Q hQ
  have hen : entryFrame m args 2 = entryFrame m (([.ref (hRd 99)] : List Value).toArray) 2 := by rw [hargs]
  have hl := lv_entry ([.ref (hRd 99)]) (n := 2) (Nat.le_of_ble_eq_true rfl)
  rw [hen, lg_entry_eq]
  generalize (lg_sl ([.ref (hRd 99)]) ++ List.replicate (2 - (lg_sl ([.ref (hRd 99)])).length) Slot.unset).toArray = ls at hl ⊢
  have hl : lv_has ls 2 [(0, .ref (hRd 99))] := hl
  unfold f_X7_readCar at hf
  obtain ⟨H, hHe⟩ : ∃ z, z = s.heap := ⟨_, rfl⟩
  obtain ⟨locs, hLe⟩ : ∃ z : List Loc, z = [] := ⟨_, rfl⟩
  rw [← hLe]
  have hS : va_S A s.heap H locs := by rw [hHe, hLe]; exact hS
  have hP : va_P D vwCl (wRd K hRd aTp (hRo 99) sRd ++ wAB K aTp nTp fTp ++ wRo K hRo sRo) H := by rw [hHe]; exact hP
  have hgo : W p l e (headSpec wz_X7_readCar r_X7_readCar).room s m args below meth c H locs 0 0 Q (F0 m 0 ls []) := by
    refine lv_aload_n hx hb dX7_readCar_0 rfl (lv_at hl 0 rfl) ?_
    obtain ⟨o1, go1, hf⟩ := bd_s hf
    refine rk_Vv (wn := wRd K hRd aTp (hRo 99) o1 ++ wAB K aTp nTp fTp ++ wRo K hRo sRo) [wRd K hRd aTp (hRo 99) sRd, wAB K aTp nTp fTp, wRo K hRo sRo] [wRd K hRd aTp (hRo 99) sRd, wAB K aTp nTp fTp] [wRd K hRd aTp (hRo 99) o1, wAB K aTp nTp fTp] [wRd K hRd aTp (hRo 99) o1, wAB K aTp nTp fTp, wRo K hRo sRo] (As := []) (rest := []) ⟨hx, hb, hml, hown, hts⟩ (c_X7_lookOn l D K F hRd (hRo 99) aTp nTp H.size sRd fTp o1 go1) (cwV 0 hts (gcV_X7_lookOn (mB9 _ (List.mem_of_getElem? (i := 2) rfl))) rfl rfl rfl hdV_X7_lookOn ⟨Nat.le_of_ble_eq_true rfl, Nat.le_of_ble_eq_true rfl⟩) hK hP hD hS hA [0, 1] (fl3 _ _ _) rfl (by decide) (fl2 _ _) (fl2 _ _) rfl rfl (fl3 _ _ _) (va_recv hK hP (ci := 6) (q0 := 0) rfl (rwl (rwl o_Rd))) rfl hl.1 rfl (Nat.le_of_ble_eq_true rfl) dX7_readCar_1 ⟨Nat.zero_le _, Nat.zero_le _⟩ (fun H locs hP hD hS => ?_)
    have hP : va_P D vwCl (wRd K hRd aTp (hRo 99) o1 ++ wAB K aTp nTp fTp ++ wRo K hRo sRo) H := hP
    have hD : va_D A (wRd K hRd aTp (hRo 99) o1 ++ wAB K aTp nTp fTp ++ wRo K hRo sRo) := hD
    refine lv_aload_n hx hb dX7_readCar_4 rfl (lv_at hl 0 rfl) ?_
    refine va_ldcS (own := RX7) (index := 114) (tx := "tank") (q := adK 6) hx hb hown (hZ.2.2.2 (RX7, 114, "tank", 6) (List.mem_of_getElem? (i := 21) rfl)) dX7_readCar_5 ?_
    obtain ⟨o2, go2, hf⟩ := bd_s hf
    refine rk_Viz (wn := wRd K hRd aTp (hRo 99) o2.2 ++ wAB K aTp nTp fTp ++ wRo K hRo sRo) [wRd K hRd aTp (hRo 99) o1, wAB K aTp nTp fTp, wRo K hRo sRo] [wRd K hRd aTp (hRo 99) o1, wAB K aTp nTp fTp] [wRd K hRd aTp (hRo 99) o2.2, wAB K aTp nTp fTp] [wRd K hRd aTp (hRo 99) o2.2, wAB K aTp nTp fTp, wRo K hRo sRo] (As := [.ref (adK 6)]) (rest := []) ⟨hx, hb, hml, hown, hts⟩ (c_X7_passWord l D K F adK adV tF hRd (hRo 99) aTp nTp H.size o1 fTp 6 o2 go2) (cwV 1 hts (gcV_X7_passWord (mB12 _ (List.mem_of_getElem? (i := 22) rfl))) rfl rfl rfl hdV_X7_passWord ⟨Nat.le_of_ble_eq_true rfl, Nat.le_of_ble_eq_true rfl⟩) hK hP hD hS hA hZ [0, 1] (fl3 _ _ _) rfl (by decide) (fl2 _ _) (fl2 _ _) rfl rfl (fl3 _ _ _) (va_recv hK hP (ci := 6) (q0 := 0) rfl (rwl (rwl o_Rd))) rfl hl.1 rfl (Nat.le_of_ble_eq_true rfl) dX7_readCar_7 ⟨Nat.zero_le _, Nat.zero_le _⟩ (fun H locs hP hD hS => ?_)
    have hP : va_P D vwCl (wRd K hRd aTp (hRo 99) o2.2 ++ wAB K aTp nTp fTp ++ wRo K hRo sRo) H := hP
    have hD : va_D A (wRd K hRd aTp (hRo 99) o2.2 ++ wAB K aTp nTp fTp ++ wRo K hRo sRo) := hD
    refine lv_if_eq (tgt := 23) hx hb dX7_readCar_10 (by decide) (fun c3 => ?_) (fun c3 => ?_)
    · have hf := it_t hf c3
      refine lv_iconst (v := (0 : Int32)) hx hb dX7_readCar_23 (by decide) ?_
      have e9 := Option.some.inj hf
      rw [hQ]
      exact W.zret (v := (0 : Int32)) hx hb hr rfl (fun t ht hW => ⟨⟨(0 : Int32), (o2.2, sRo), rfl, ⟨pr1 e9, pr2 e9⟩, ⟨by rw [ht]; exact hP, va_K.moved hW.alike hK, hD⟩⟩, hS.F ht⟩) hS.2.2 dX7_readCar_24
    · have hf := it_f hf c3
      refine lv_aload_n hx hb dX7_readCar_13 rfl (lv_at hl 0 rfl) ?_
      refine lv_iconst (v := (1 : Int32)) hx hb dX7_readCar_14 (by decide) ?_
      refine lv_bipush (v := (40 : Int32)) hx hb dX7_readCar_15 (by decide) ?_
      obtain ⟨o4, go4, hf⟩ := bd_s hf
      refine rk_Vi (wn := wRd K hRd aTp (hRo 99) o4.2 ++ wAB K aTp nTp fTp ++ wRo K hRo sRo) [wRd K hRd aTp (hRo 99) o2.2, wAB K aTp nTp fTp, wRo K hRo sRo] [wRd K hRd aTp (hRo 99) o2.2, wAB K aTp nTp fTp] [wRd K hRd aTp (hRo 99) o4.2, wAB K aTp nTp fTp] [wRd K hRd aTp (hRo 99) o4.2, wAB K aTp nTp fTp, wRo K hRo sRo] (As := [.int (1 : Int32), .int (40 : Int32)]) (rest := []) ⟨hx, hb, hml, hown, hts⟩ (c_X7_passWhole l D K F hRd (hRo 99) aTp nTp H.size o2.2 fTp (1 : Int32) (40 : Int32) o4 go4) (cwV 2 hts (gcV_X7_passWhole (mB13 _ (List.mem_of_getElem? (i := 2) rfl))) rfl rfl rfl hdV_X7_passWhole ⟨Nat.le_of_ble_eq_true rfl, Nat.le_of_ble_eq_true rfl⟩) hK hP hD hS hA [0, 1] (fl3 _ _ _) rfl (by decide) (fl2 _ _) (fl2 _ _) rfl rfl (fl3 _ _ _) (va_recv hK hP (ci := 6) (q0 := 0) rfl (rwl (rwl o_Rd))) rfl hl.1 rfl (Nat.le_of_ble_eq_true rfl) dX7_readCar_17 ⟨Nat.zero_le _, Nat.zero_le _⟩ (fun H locs hP hD hS => ?_)
      have hP : va_P D vwCl (wRd K hRd aTp (hRo 99) o4.2 ++ wAB K aTp nTp fTp ++ wRo K hRo sRo) H := hP
      have hD : va_D A (wRd K hRd aTp (hRo 99) o4.2 ++ wAB K aTp nTp fTp ++ wRo K hRo sRo) := hD
      refine lv_if_ne (tgt := 25) hx hb dX7_readCar_20 (by decide) (fun c5 => ?_) (fun c5 => ?_)
      · have hf := it_f hf c5
        refine lv_aload_n hx hb dX7_readCar_25 rfl (lv_at hl 0 rfl) ?_
        refine va_get (D := D) (ci := 6) (v := .int (o4.2.1 8)) (C := RX7) (T := TX7) (N := 11) hx hb hts iX7 hown hK hP 0 (rwl (rwl o_Rd)) rfl 8 (by decide) (htl _ (mB12 _ (List.mem_of_getElem? (i := 17) rfl))) (fun _ h9 => h9) rfl dX7_readCar_26 ?_
        refine lv_istore_n (lv' := [(1, .int (o4.2.1 8)), (0, .ref (hRd 99))]) hx hb dX7_readCar_29 rfl hl (by decide) rfl (fun ls hl => ?_)
        refine lv_aload_n hx hb dX7_readCar_30 rfl (lv_at hl 1 rfl) ?_
        refine va_ldcS (own := RX7) (index := 125) (tx := "has") (q := adK 7) hx hb hown (hZ.2.2.2 (RX7, 125, "has", 7) (List.mem_of_getElem? (i := 22) rfl)) dX7_readCar_31 ?_
        obtain ⟨o6, go6, hf⟩ := bd_s hf
        refine rk_Viz (wn := wRd K hRd aTp (hRo 99) o6.2 ++ wAB K aTp nTp fTp ++ wRo K hRo sRo) [wRd K hRd aTp (hRo 99) o4.2, wAB K aTp nTp fTp, wRo K hRo sRo] [wRd K hRd aTp (hRo 99) o4.2, wAB K aTp nTp fTp] [wRd K hRd aTp (hRo 99) o6.2, wAB K aTp nTp fTp] [wRd K hRd aTp (hRo 99) o6.2, wAB K aTp nTp fTp, wRo K hRo sRo] (As := [.ref (adK 7)]) (rest := []) ⟨hx, hb, hml, hown, hts⟩ (c_X7_passWord l D K F adK adV tF hRd (hRo 99) aTp nTp H.size o4.2 fTp 7 o6 go6) (cwV 1 hts (gcV_X7_passWord (mB12 _ (List.mem_of_getElem? (i := 22) rfl))) rfl rfl rfl hdV_X7_passWord ⟨Nat.le_of_ble_eq_true rfl, Nat.le_of_ble_eq_true rfl⟩) hK hP hD hS hA hZ [0, 1] (fl3 _ _ _) rfl (by decide) (fl2 _ _) (fl2 _ _) rfl rfl (fl3 _ _ _) (va_recv hK hP (ci := 6) (q0 := 0) rfl (rwl (rwl o_Rd))) rfl hl.1 rfl (Nat.le_of_ble_eq_true rfl) dX7_readCar_33 ⟨Nat.zero_le _, Nat.zero_le _⟩ (fun H locs hP hD hS => ?_)
        have hP : va_P D vwCl (wRd K hRd aTp (hRo 99) o6.2 ++ wAB K aTp nTp fTp ++ wRo K hRo sRo) H := hP
        have hD : va_D A (wRd K hRd aTp (hRo 99) o6.2 ++ wAB K aTp nTp fTp ++ wRo K hRo sRo) := hD
        refine lv_if_eq (tgt := 48) hx hb dX7_readCar_36 (by decide) (fun c7 => ?_) (fun c7 => ?_)
        · have hf := it_t hf c7
          refine lv_iconst (v := (0 : Int32)) hx hb dX7_readCar_48 (by decide) ?_
          have e9 := Option.some.inj hf
          rw [hQ]
          exact W.zret (v := (0 : Int32)) hx hb hr rfl (fun t ht hW => ⟨⟨(0 : Int32), (o6.2, sRo), rfl, ⟨pr1 e9, pr2 e9⟩, ⟨by rw [ht]; exact hP, va_K.moved hW.alike hK, hD⟩⟩, hS.F ht⟩) hS.2.2 dX7_readCar_49
        · have hf := it_f hf c7
          refine lv_aload_n hx hb dX7_readCar_39 rfl (lv_at hl 1 rfl) ?_
          refine lv_iconst (v := (0 : Int32)) hx hb dX7_readCar_40 (by decide) ?_
          refine lv_iload_n hx hb dX7_readCar_41 rfl (lv_at hl 0 rfl) ?_
          obtain ⟨o8, go8, hf⟩ := bd_s hf
          refine rk_Vi (wn := wRd K hRd aTp (hRo 99) o8.2 ++ wAB K aTp nTp fTp ++ wRo K hRo sRo) [wRd K hRd aTp (hRo 99) o6.2, wAB K aTp nTp fTp, wRo K hRo sRo] [wRd K hRd aTp (hRo 99) o6.2, wAB K aTp nTp fTp] [wRd K hRd aTp (hRo 99) o8.2, wAB K aTp nTp fTp] [wRd K hRd aTp (hRo 99) o8.2, wAB K aTp nTp fTp, wRo K hRo sRo] (As := [.int (0 : Int32), .int (o4.2.1 8)]) (rest := []) ⟨hx, hb, hml, hown, hts⟩ (c_X7_passWhole l D K F hRd (hRo 99) aTp nTp H.size o6.2 fTp (0 : Int32) (o4.2.1 8) o8 go8) (cwV 2 hts (gcV_X7_passWhole (mB13 _ (List.mem_of_getElem? (i := 2) rfl))) rfl rfl rfl hdV_X7_passWhole ⟨Nat.le_of_ble_eq_true rfl, Nat.le_of_ble_eq_true rfl⟩) hK hP hD hS hA [0, 1] (fl3 _ _ _) rfl (by decide) (fl2 _ _) (fl2 _ _) rfl rfl (fl3 _ _ _) (va_recv hK hP (ci := 6) (q0 := 0) rfl (rwl (rwl o_Rd))) rfl hl.1 rfl (Nat.le_of_ble_eq_true rfl) dX7_readCar_42 ⟨Nat.zero_le _, Nat.zero_le _⟩ (fun H locs hP hD hS => ?_)
          have hP : va_P D vwCl (wRd K hRd aTp (hRo 99) o8.2 ++ wAB K aTp nTp fTp ++ wRo K hRo sRo) H := hP
          have hD : va_D A (wRd K hRd aTp (hRo 99) o8.2 ++ wAB K aTp nTp fTp ++ wRo K hRo sRo) := hD
          refine lv_if_ne (tgt := 50) hx hb dX7_readCar_45 (by decide) (fun c9 => ?_) (fun c9 => ?_)
          · have hf := it_f hf c9
            refine lv_aload_n hx hb dX7_readCar_50 rfl (lv_at hl 1 rfl) ?_
            refine va_get (D := D) (ci := 6) (v := .ref (hRo 99)) (C := RX7) (T := TX7) (N := 11) hx hb hts iX7 hown hK hP 0 (rwl (rwl o_Rd)) rfl 4 (by decide) (htl _ (mB3 _ (List.mem_of_getElem? (i := 18) rfl))) (fun _ h9 => h9) rfl dX7_readCar_51 ?_
            refine lv_aload_n hx hb dX7_readCar_54 rfl (lv_at hl 1 rfl) ?_
            refine va_get (D := D) (ci := 6) (v := .int (o8.2.1 8)) (C := RX7) (T := TX7) (N := 11) hx hb hts iX7 hown hK hP 0 (rwl (rwl o_Rd)) rfl 8 (by decide) (htl _ (mB12 _ (List.mem_of_getElem? (i := 17) rfl))) (fun _ h9 => h9) rfl dX7_readCar_55 ?_
            refine va_put (D := D) (ci := 8) (v := .int (o8.2.1 8)) (ty := .int) (C := RX9) (T := TX9) (N := 19) hx hb hts iX9 tyX9 tyX9_ok nmX9 hown hK hP hD hS ((3 + 1) + 0) (rwr (lnA ln_Rd ln_AB) o_Ro) rfl 1 (by decide) (htl _ (mB12 _ (List.mem_of_getElem? (i := 18) rfl))) (fun _ h9 => h9) rfl (by decide +kernel) rfl rfl (Nat.le_of_ble_eq_true rfl) dX7_readCar_58 (fun H locs hP hD hS => ?_)
            have hP := cvP (str (lnA ln_Rd ln_AB) si_Ro_1) hP
            have hD := cvD (str (lnA ln_Rd ln_AB) si_Ro_1) hD
            obtain ⟨s10, es10⟩ : ∃ z, z = sI sRo 1 (o8.2.1 8) := ⟨_, rfl⟩
            have hP : va_P D vwCl (wRd K hRd aTp (hRo 99) o8.2 ++ wAB K aTp nTp fTp ++ wRo K hRo s10) H := by rw [es10]; exact hP
            have hD : va_D A (wRd K hRd aTp (hRo 99) o8.2 ++ wAB K aTp nTp fTp ++ wRo K hRo s10) := by rw [es10]; exact hD
            have hf := lz_s hf s10 es10
            refine lv_aload_n hx hb dX7_readCar_61 rfl (lv_at hl 1 rfl) ?_
            refine va_ldcS (own := RX7) (index := 129) (tx := "stop") (q := adK 8) hx hb hown (hZ.2.2.2 (RX7, 129, "stop", 8) (List.mem_of_getElem? (i := 23) rfl)) dX7_readCar_62 ?_
            obtain ⟨o11, go11, hf⟩ := bd_s hf
            refine rk_Viz (wn := wRd K hRd aTp (hRo 99) o11.2 ++ wAB K aTp nTp fTp ++ wRo K hRo s10) [wRd K hRd aTp (hRo 99) o8.2, wAB K aTp nTp fTp, wRo K hRo s10] [wRd K hRd aTp (hRo 99) o8.2, wAB K aTp nTp fTp] [wRd K hRd aTp (hRo 99) o11.2, wAB K aTp nTp fTp] [wRd K hRd aTp (hRo 99) o11.2, wAB K aTp nTp fTp, wRo K hRo s10] (As := [.ref (adK 8)]) (rest := []) ⟨hx, hb, hml, hown, hts⟩ (c_X7_passWord l D K F adK adV tF hRd (hRo 99) aTp nTp H.size o8.2 fTp 8 o11 go11) (cwV 1 hts (gcV_X7_passWord (mB12 _ (List.mem_of_getElem? (i := 22) rfl))) rfl rfl rfl hdV_X7_passWord ⟨Nat.le_of_ble_eq_true rfl, Nat.le_of_ble_eq_true rfl⟩) hK hP hD hS hA hZ [0, 1] (fl3 _ _ _) rfl (by decide) (fl2 _ _) (fl2 _ _) rfl rfl (fl3 _ _ _) (va_recv hK hP (ci := 6) (q0 := 0) rfl (rwl (rwl o_Rd))) rfl hl.1 rfl (Nat.le_of_ble_eq_true rfl) dX7_readCar_64 ⟨Nat.zero_le _, Nat.zero_le _⟩ (fun H locs hP hD hS => ?_)
            have hP : va_P D vwCl (wRd K hRd aTp (hRo 99) o11.2 ++ wAB K aTp nTp fTp ++ wRo K hRo s10) H := hP
            have hD : va_D A (wRd K hRd aTp (hRo 99) o11.2 ++ wAB K aTp nTp fTp ++ wRo K hRo s10) := hD
            refine lv_if_eq (tgt := 80) hx hb dX7_readCar_67 (by decide) (fun c12 => ?_) (fun c12 => ?_)
            · have hf := it_t hf c12
              refine lv_iconst (v := (0 : Int32)) hx hb dX7_readCar_80 (by decide) ?_
              have e9 := Option.some.inj hf
              rw [hQ]
              exact W.zret (v := (0 : Int32)) hx hb hr rfl (fun t ht hW => ⟨⟨(0 : Int32), (o11.2, s10), rfl, ⟨pr1 e9, pr2 e9⟩, ⟨by rw [ht]; exact hP, va_K.moved hW.alike hK, hD⟩⟩, hS.F ht⟩) hS.2.2 dX7_readCar_81
            · have hf := it_f hf c12
              refine lv_aload_n hx hb dX7_readCar_70 rfl (lv_at hl 1 rfl) ?_
              refine lv_iconst (v := (0 : Int32)) hx hb dX7_readCar_71 (by decide) ?_
              refine lv_bipush (v := (99 : Int32)) hx hb dX7_readCar_72 (by decide) ?_
              obtain ⟨o13, go13, hf⟩ := bd_s hf
              refine rk_Vi (wn := wRd K hRd aTp (hRo 99) o13.2 ++ wAB K aTp nTp fTp ++ wRo K hRo s10) [wRd K hRd aTp (hRo 99) o11.2, wAB K aTp nTp fTp, wRo K hRo s10] [wRd K hRd aTp (hRo 99) o11.2, wAB K aTp nTp fTp] [wRd K hRd aTp (hRo 99) o13.2, wAB K aTp nTp fTp] [wRd K hRd aTp (hRo 99) o13.2, wAB K aTp nTp fTp, wRo K hRo s10] (As := [.int (0 : Int32), .int (99 : Int32)]) (rest := []) ⟨hx, hb, hml, hown, hts⟩ (c_X7_passWhole l D K F hRd (hRo 99) aTp nTp H.size o11.2 fTp (0 : Int32) (99 : Int32) o13 go13) (cwV 2 hts (gcV_X7_passWhole (mB13 _ (List.mem_of_getElem? (i := 2) rfl))) rfl rfl rfl hdV_X7_passWhole ⟨Nat.le_of_ble_eq_true rfl, Nat.le_of_ble_eq_true rfl⟩) hK hP hD hS hA [0, 1] (fl3 _ _ _) rfl (by decide) (fl2 _ _) (fl2 _ _) rfl rfl (fl3 _ _ _) (va_recv hK hP (ci := 6) (q0 := 0) rfl (rwl (rwl o_Rd))) rfl hl.1 rfl (Nat.le_of_ble_eq_true rfl) dX7_readCar_74 ⟨Nat.zero_le _, Nat.zero_le _⟩ (fun H locs hP hD hS => ?_)
              have hP : va_P D vwCl (wRd K hRd aTp (hRo 99) o13.2 ++ wAB K aTp nTp fTp ++ wRo K hRo s10) H := hP
              have hD : va_D A (wRd K hRd aTp (hRo 99) o13.2 ++ wAB K aTp nTp fTp ++ wRo K hRo s10) := hD
              refine lv_if_ne (tgt := 82) hx hb dX7_readCar_77 (by decide) (fun c14 => ?_) (fun c14 => ?_)
              · have hf := it_f hf c14
                refine lv_aload_n hx hb dX7_readCar_82 rfl (lv_at hl 1 rfl) ?_
                refine va_get (D := D) (ci := 6) (v := .ref (hRo 99)) (C := RX7) (T := TX7) (N := 11) hx hb hts iX7 hown hK hP 0 (rwl (rwl o_Rd)) rfl 4 (by decide) (htl _ (mB3 _ (List.mem_of_getElem? (i := 18) rfl))) (fun _ h9 => h9) rfl dX7_readCar_83 ?_
                refine lv_aload_n hx hb dX7_readCar_86 rfl (lv_at hl 1 rfl) ?_
                refine va_get (D := D) (ci := 6) (v := .int (o13.2.1 8)) (C := RX7) (T := TX7) (N := 11) hx hb hts iX7 hown hK hP 0 (rwl (rwl o_Rd)) rfl 8 (by decide) (htl _ (mB12 _ (List.mem_of_getElem? (i := 17) rfl))) (fun _ h9 => h9) rfl dX7_readCar_87 ?_
                refine va_put (D := D) (ci := 8) (v := .int (o13.2.1 8)) (ty := .int) (C := RX9) (T := TX9) (N := 19) hx hb hts iX9 tyX9 tyX9_ok nmX9 hown hK hP hD hS ((3 + 1) + 0) (rwr (lnA ln_Rd ln_AB) o_Ro) rfl 2 (by decide) (htl _ (mB12 _ (List.mem_of_getElem? (i := 19) rfl))) (fun _ h9 => h9) rfl (by decide +kernel) rfl rfl (Nat.le_of_ble_eq_true rfl) dX7_readCar_90 (fun H locs hP hD hS => ?_)
                have hP := cvP (str (lnA ln_Rd ln_AB) si_Ro_2) hP
                have hD := cvD (str (lnA ln_Rd ln_AB) si_Ro_2) hD
                obtain ⟨s15, es15⟩ : ∃ z, z = sI s10 2 (o13.2.1 8) := ⟨_, rfl⟩
                have hP : va_P D vwCl (wRd K hRd aTp (hRo 99) o13.2 ++ wAB K aTp nTp fTp ++ wRo K hRo s15) H := by rw [es15]; exact hP
                have hD : va_D A (wRd K hRd aTp (hRo 99) o13.2 ++ wAB K aTp nTp fTp ++ wRo K hRo s15) := by rw [es15]; exact hD
                have hf := lz_s hf s15 es15
                refine lv_aload_n hx hb dX7_readCar_93 rfl (lv_at hl 1 rfl) ?_
                refine lv_bipush (v := (44 : Int32)) hx hb dX7_readCar_94 (by decide) ?_
                obtain ⟨o16, go16, hf⟩ := bd_s hf
                refine rk_Vi (wn := wRd K hRd aTp (hRo 99) o16.2 ++ wAB K aTp nTp fTp ++ wRo K hRo s15) [wRd K hRd aTp (hRo 99) o13.2, wAB K aTp nTp fTp, wRo K hRo s15] [wRd K hRd aTp (hRo 99) o13.2, wAB K aTp nTp fTp] [wRd K hRd aTp (hRo 99) o16.2, wAB K aTp nTp fTp] [wRd K hRd aTp (hRo 99) o16.2, wAB K aTp nTp fTp, wRo K hRo s15] (As := [.int (44 : Int32)]) (rest := []) ⟨hx, hb, hml, hown, hts⟩ (c_X7_passSign l D K F hRd (hRo 99) aTp nTp H.size o13.2 fTp (44 : Int32) o16 go16) (cwV 1 hts (gcV_X7_passSign (mB13 _ (List.mem_of_getElem? (i := 6) rfl))) rfl rfl rfl hdV_X7_passSign ⟨Nat.le_of_ble_eq_true rfl, Nat.le_of_ble_eq_true rfl⟩) hK hP hD hS hA [0, 1] (fl3 _ _ _) rfl (by decide) (fl2 _ _) (fl2 _ _) rfl rfl (fl3 _ _ _) (va_recv hK hP (ci := 6) (q0 := 0) rfl (rwl (rwl o_Rd))) rfl hl.1 rfl (Nat.le_of_ble_eq_true rfl) dX7_readCar_96 ⟨Nat.zero_le _, Nat.zero_le _⟩ (fun H locs hP hD hS => ?_)
                have hP : va_P D vwCl (wRd K hRd aTp (hRo 99) o16.2 ++ wAB K aTp nTp fTp ++ wRo K hRo s15) H := hP
                have hD : va_D A (wRd K hRd aTp (hRo 99) o16.2 ++ wAB K aTp nTp fTp ++ wRo K hRo s15) := hD
                refine lv_if_eq (tgt := 112) hx hb dX7_readCar_99 (by decide) (fun c17 => ?_) (fun c17 => ?_)
                · have hf := it_t hf c17
                  refine lv_iconst (v := (0 : Int32)) hx hb dX7_readCar_112 (by decide) ?_
                  have e9 := Option.some.inj hf
                  rw [hQ]
                  exact W.zret (v := (0 : Int32)) hx hb hr rfl (fun t ht hW => ⟨⟨(0 : Int32), (o16.2, s15), rfl, ⟨pr1 e9, pr2 e9⟩, ⟨by rw [ht]; exact hP, va_K.moved hW.alike hK, hD⟩⟩, hS.F ht⟩) hS.2.2 dX7_readCar_113
                · have hf := it_f hf c17
                  refine lv_aload_n hx hb dX7_readCar_102 rfl (lv_at hl 1 rfl) ?_
                  refine lv_iconst (v := (0 : Int32)) hx hb dX7_readCar_103 (by decide) ?_
                  refine lv_bipush (v := (60 : Int32)) hx hb dX7_readCar_104 (by decide) ?_
                  obtain ⟨o18, go18, hf⟩ := bd_s hf
                  refine rk_Vi (wn := wRd K hRd aTp (hRo 99) o18.2 ++ wAB K aTp nTp fTp ++ wRo K hRo s15) [wRd K hRd aTp (hRo 99) o16.2, wAB K aTp nTp fTp, wRo K hRo s15] [wRd K hRd aTp (hRo 99) o16.2, wAB K aTp nTp fTp] [wRd K hRd aTp (hRo 99) o18.2, wAB K aTp nTp fTp] [wRd K hRd aTp (hRo 99) o18.2, wAB K aTp nTp fTp, wRo K hRo s15] (As := [.int (0 : Int32), .int (60 : Int32)]) (rest := []) ⟨hx, hb, hml, hown, hts⟩ (c_X7_passWhole l D K F hRd (hRo 99) aTp nTp H.size o16.2 fTp (0 : Int32) (60 : Int32) o18 go18) (cwV 2 hts (gcV_X7_passWhole (mB13 _ (List.mem_of_getElem? (i := 2) rfl))) rfl rfl rfl hdV_X7_passWhole ⟨Nat.le_of_ble_eq_true rfl, Nat.le_of_ble_eq_true rfl⟩) hK hP hD hS hA [0, 1] (fl3 _ _ _) rfl (by decide) (fl2 _ _) (fl2 _ _) rfl rfl (fl3 _ _ _) (va_recv hK hP (ci := 6) (q0 := 0) rfl (rwl (rwl o_Rd))) rfl hl.1 rfl (Nat.le_of_ble_eq_true rfl) dX7_readCar_106 ⟨Nat.zero_le _, Nat.zero_le _⟩ (fun H locs hP hD hS => ?_)
                  have hP : va_P D vwCl (wRd K hRd aTp (hRo 99) o18.2 ++ wAB K aTp nTp fTp ++ wRo K hRo s15) H := hP
                  have hD : va_D A (wRd K hRd aTp (hRo 99) o18.2 ++ wAB K aTp nTp fTp ++ wRo K hRo s15) := hD
                  refine lv_if_ne (tgt := 114) hx hb dX7_readCar_109 (by decide) (fun c19 => ?_) (fun c19 => ?_)
                  · have hf := it_f hf c19
                    refine lv_aload_n hx hb dX7_readCar_114 rfl (lv_at hl 1 rfl) ?_
                    refine va_get (D := D) (ci := 6) (v := .ref (hRo 99)) (C := RX7) (T := TX7) (N := 11) hx hb hts iX7 hown hK hP 0 (rwl (rwl o_Rd)) rfl 4 (by decide) (htl _ (mB3 _ (List.mem_of_getElem? (i := 18) rfl))) (fun _ h9 => h9) rfl dX7_readCar_115 ?_
                    refine lv_aload_n hx hb dX7_readCar_118 rfl (lv_at hl 1 rfl) ?_
                    refine va_get (D := D) (ci := 6) (v := .int (o18.2.1 8)) (C := RX7) (T := TX7) (N := 11) hx hb hts iX7 hown hK hP 0 (rwl (rwl o_Rd)) rfl 8 (by decide) (htl _ (mB12 _ (List.mem_of_getElem? (i := 17) rfl))) (fun _ h9 => h9) rfl dX7_readCar_119 ?_
                    refine va_put (D := D) (ci := 8) (v := .int (o18.2.1 8)) (ty := .int) (C := RX9) (T := TX9) (N := 19) hx hb hts iX9 tyX9 tyX9_ok nmX9 hown hK hP hD hS ((3 + 1) + 0) (rwr (lnA ln_Rd ln_AB) o_Ro) rfl 3 (by decide) (htl _ (mB12 _ (List.mem_of_getElem? (i := 20) rfl))) (fun _ h9 => h9) rfl (by decide +kernel) rfl rfl (Nat.le_of_ble_eq_true rfl) dX7_readCar_122 (fun H locs hP hD hS => ?_)
                    have hP := cvP (str (lnA ln_Rd ln_AB) si_Ro_3) hP
                    have hD := cvD (str (lnA ln_Rd ln_AB) si_Ro_3) hD
                    obtain ⟨s20, es20⟩ : ∃ z, z = sI s15 3 (o18.2.1 8) := ⟨_, rfl⟩
                    have hP : va_P D vwCl (wRd K hRd aTp (hRo 99) o18.2 ++ wAB K aTp nTp fTp ++ wRo K hRo s20) H := by rw [es20]; exact hP
                    have hD : va_D A (wRd K hRd aTp (hRo 99) o18.2 ++ wAB K aTp nTp fTp ++ wRo K hRo s20) := by rw [es20]; exact hD
                    have hf := lz_s hf s20 es20
                    refine lv_aload_n hx hb dX7_readCar_125 rfl (lv_at hl 1 rfl) ?_
                    refine va_ldcS (own := RX7) (index := 137) (tx := "stuck") (q := adK 9) hx hb hown (hZ.2.2.2 (RX7, 137, "stuck", 9) (List.mem_of_getElem? (i := 24) rfl)) dX7_readCar_126 ?_
                    obtain ⟨o21, go21, hf⟩ := bd_s hf
                    refine rk_Viz (wn := wRd K hRd aTp (hRo 99) o21.2 ++ wAB K aTp nTp fTp ++ wRo K hRo s20) [wRd K hRd aTp (hRo 99) o18.2, wAB K aTp nTp fTp, wRo K hRo s20] [wRd K hRd aTp (hRo 99) o18.2, wAB K aTp nTp fTp] [wRd K hRd aTp (hRo 99) o21.2, wAB K aTp nTp fTp] [wRd K hRd aTp (hRo 99) o21.2, wAB K aTp nTp fTp, wRo K hRo s20] (As := [.ref (adK 9)]) (rest := []) ⟨hx, hb, hml, hown, hts⟩ (c_X7_passWord l D K F adK adV tF hRd (hRo 99) aTp nTp H.size o18.2 fTp 9 o21 go21) (cwV 1 hts (gcV_X7_passWord (mB12 _ (List.mem_of_getElem? (i := 22) rfl))) rfl rfl rfl hdV_X7_passWord ⟨Nat.le_of_ble_eq_true rfl, Nat.le_of_ble_eq_true rfl⟩) hK hP hD hS hA hZ [0, 1] (fl3 _ _ _) rfl (by decide) (fl2 _ _) (fl2 _ _) rfl rfl (fl3 _ _ _) (va_recv hK hP (ci := 6) (q0 := 0) rfl (rwl (rwl o_Rd))) rfl hl.1 rfl (Nat.le_of_ble_eq_true rfl) dX7_readCar_128 ⟨Nat.zero_le _, Nat.zero_le _⟩ (fun H locs hP hD hS => ?_)
                    have hP : va_P D vwCl (wRd K hRd aTp (hRo 99) o21.2 ++ wAB K aTp nTp fTp ++ wRo K hRo s20) H := hP
                    have hD : va_D A (wRd K hRd aTp (hRo 99) o21.2 ++ wAB K aTp nTp fTp ++ wRo K hRo s20) := hD
                    refine lv_if_eq (tgt := 145) hx hb dX7_readCar_131 (by decide) (fun c22 => ?_) (fun c22 => ?_)
                    · have hf := it_t hf c22
                      refine lv_iconst (v := (0 : Int32)) hx hb dX7_readCar_145 (by decide) ?_
                      have e9 := Option.some.inj hf
                      rw [hQ]
                      exact W.zret (v := (0 : Int32)) hx hb hr rfl (fun t ht hW => ⟨⟨(0 : Int32), (o21.2, s20), rfl, ⟨pr1 e9, pr2 e9⟩, ⟨by rw [ht]; exact hP, va_K.moved hW.alike hK, hD⟩⟩, hS.F ht⟩) hS.2.2 dX7_readCar_146
                    · have hf := it_f hf c22
                      refine lv_aload_n hx hb dX7_readCar_134 rfl (lv_at hl 1 rfl) ?_
                      refine lv_iconst (v := (0 : Int32)) hx hb dX7_readCar_135 (by decide) ?_
                      refine lv_sipush (v := (999 : Int32)) hx hb dX7_readCar_136 (by decide) ?_
                      obtain ⟨o23, go23, hf⟩ := bd_s hf
                      refine rk_Vi (wn := wRd K hRd aTp (hRo 99) o23.2 ++ wAB K aTp nTp fTp ++ wRo K hRo s20) [wRd K hRd aTp (hRo 99) o21.2, wAB K aTp nTp fTp, wRo K hRo s20] [wRd K hRd aTp (hRo 99) o21.2, wAB K aTp nTp fTp] [wRd K hRd aTp (hRo 99) o23.2, wAB K aTp nTp fTp] [wRd K hRd aTp (hRo 99) o23.2, wAB K aTp nTp fTp, wRo K hRo s20] (As := [.int (0 : Int32), .int (999 : Int32)]) (rest := []) ⟨hx, hb, hml, hown, hts⟩ (c_X7_passWhole l D K F hRd (hRo 99) aTp nTp H.size o21.2 fTp (0 : Int32) (999 : Int32) o23 go23) (cwV 2 hts (gcV_X7_passWhole (mB13 _ (List.mem_of_getElem? (i := 2) rfl))) rfl rfl rfl hdV_X7_passWhole ⟨Nat.le_of_ble_eq_true rfl, Nat.le_of_ble_eq_true rfl⟩) hK hP hD hS hA [0, 1] (fl3 _ _ _) rfl (by decide) (fl2 _ _) (fl2 _ _) rfl rfl (fl3 _ _ _) (va_recv hK hP (ci := 6) (q0 := 0) rfl (rwl (rwl o_Rd))) rfl hl.1 rfl (Nat.le_of_ble_eq_true rfl) dX7_readCar_139 ⟨Nat.zero_le _, Nat.zero_le _⟩ (fun H locs hP hD hS => ?_)
                      have hP : va_P D vwCl (wRd K hRd aTp (hRo 99) o23.2 ++ wAB K aTp nTp fTp ++ wRo K hRo s20) H := hP
                      have hD : va_D A (wRd K hRd aTp (hRo 99) o23.2 ++ wAB K aTp nTp fTp ++ wRo K hRo s20) := hD
                      refine lv_if_ne (tgt := 147) hx hb dX7_readCar_142 (by decide) (fun c24 => ?_) (fun c24 => ?_)
                      · have hf := it_f hf c24
                        refine lv_aload_n hx hb dX7_readCar_147 rfl (lv_at hl 1 rfl) ?_
                        refine va_get (D := D) (ci := 6) (v := .ref (hRo 99)) (C := RX7) (T := TX7) (N := 11) hx hb hts iX7 hown hK hP 0 (rwl (rwl o_Rd)) rfl 4 (by decide) (htl _ (mB3 _ (List.mem_of_getElem? (i := 18) rfl))) (fun _ h9 => h9) rfl dX7_readCar_148 ?_
                        refine lv_aload_n hx hb dX7_readCar_151 rfl (lv_at hl 1 rfl) ?_
                        refine va_get (D := D) (ci := 6) (v := .int (o23.2.1 8)) (C := RX7) (T := TX7) (N := 11) hx hb hts iX7 hown hK hP 0 (rwl (rwl o_Rd)) rfl 8 (by decide) (htl _ (mB12 _ (List.mem_of_getElem? (i := 17) rfl))) (fun _ h9 => h9) rfl dX7_readCar_152 ?_
                        refine va_put (D := D) (ci := 8) (v := .int (o23.2.1 8)) (ty := .int) (C := RX9) (T := TX9) (N := 19) hx hb hts iX9 tyX9 tyX9_ok nmX9 hown hK hP hD hS ((3 + 1) + 0) (rwr (lnA ln_Rd ln_AB) o_Ro) rfl 4 (by decide) (htl _ (mB12 _ (List.mem_of_getElem? (i := 21) rfl))) (fun _ h9 => h9) rfl (by decide +kernel) rfl rfl (Nat.le_of_ble_eq_true rfl) dX7_readCar_155 (fun H locs hP hD hS => ?_)
                        have hP := cvP (str (lnA ln_Rd ln_AB) si_Ro_4) hP
                        have hD := cvD (str (lnA ln_Rd ln_AB) si_Ro_4) hD
                        obtain ⟨s25, es25⟩ : ∃ z, z = sI s20 4 (o23.2.1 8) := ⟨_, rfl⟩
                        have hP : va_P D vwCl (wRd K hRd aTp (hRo 99) o23.2 ++ wAB K aTp nTp fTp ++ wRo K hRo s25) H := by rw [es25]; exact hP
                        have hD : va_D A (wRd K hRd aTp (hRo 99) o23.2 ++ wAB K aTp nTp fTp ++ wRo K hRo s25) := by rw [es25]; exact hD
                        have hf := lz_s hf s25 es25
                        refine lv_aload_n hx hb dX7_readCar_158 rfl (lv_at hl 1 rfl) ?_
                        refine va_get (D := D) (ci := 6) (v := .ref (hRo 99)) (C := RX7) (T := TX7) (N := 11) hx hb hts iX7 hown hK hP 0 (rwl (rwl o_Rd)) rfl 4 (by decide) (htl _ (mB3 _ (List.mem_of_getElem? (i := 18) rfl))) (fun _ h9 => h9) rfl dX7_readCar_159 ?_
                        refine lv_iload_n hx hb dX7_readCar_162 rfl (lv_at hl 0 rfl) ?_
                        refine va_put (D := D) (ci := 8) (v := .int (o4.2.1 8)) (ty := .int) (C := RX9) (T := TX9) (N := 19) hx hb hts iX9 tyX9 tyX9_ok nmX9 hown hK hP hD hS ((3 + 1) + 0) (rwr (lnA ln_Rd ln_AB) o_Ro) rfl 0 (by decide) (htl _ (mB9 _ (List.mem_of_getElem? (i := 19) rfl))) (fun _ h9 => h9) rfl (by decide +kernel) rfl rfl (Nat.le_of_ble_eq_true rfl) dX7_readCar_163 (fun H locs hP hD hS => ?_)
                        have hP := cvP (str (lnA ln_Rd ln_AB) si_Ro_0) hP
                        have hD := cvD (str (lnA ln_Rd ln_AB) si_Ro_0) hD
                        obtain ⟨s26, es26⟩ : ∃ z, z = sI s25 0 (o4.2.1 8) := ⟨_, rfl⟩
                        have hP : va_P D vwCl (wRd K hRd aTp (hRo 99) o23.2 ++ wAB K aTp nTp fTp ++ wRo K hRo s26) H := by rw [es26]; exact hP
                        have hD : va_D A (wRd K hRd aTp (hRo 99) o23.2 ++ wAB K aTp nTp fTp ++ wRo K hRo s26) := by rw [es26]; exact hD
                        have hf := lz_s hf s26 es26
                        refine lv_iconst (v := (1 : Int32)) hx hb dX7_readCar_166 (by decide) ?_
                        have e9 := Option.some.inj hf
                        rw [hQ]
                        exact W.zret (v := (1 : Int32)) hx hb hr rfl (fun t ht hW => ⟨⟨(1 : Int32), (o23.2, s26), rfl, ⟨pr1 e9, pr2 e9⟩, ⟨by rw [ht]; exact hP, va_K.moved hW.alike hK, hD⟩⟩, hS.F ht⟩) hS.2.2 dX7_readCar_167
                      · have hf := it_t hf c24
                        refine lv_iconst (v := (0 : Int32)) hx hb dX7_readCar_145 (by decide) ?_
                        have e9 := Option.some.inj hf
                        rw [hQ]
                        exact W.zret (v := (0 : Int32)) hx hb hr rfl (fun t ht hW => ⟨⟨(0 : Int32), (o23.2, s20), rfl, ⟨pr1 e9, pr2 e9⟩, ⟨by rw [ht]; exact hP, va_K.moved hW.alike hK, hD⟩⟩, hS.F ht⟩) hS.2.2 dX7_readCar_146
                  · have hf := it_t hf c19
                    refine lv_iconst (v := (0 : Int32)) hx hb dX7_readCar_112 (by decide) ?_
                    have e9 := Option.some.inj hf
                    rw [hQ]
                    exact W.zret (v := (0 : Int32)) hx hb hr rfl (fun t ht hW => ⟨⟨(0 : Int32), (o18.2, s15), rfl, ⟨pr1 e9, pr2 e9⟩, ⟨by rw [ht]; exact hP, va_K.moved hW.alike hK, hD⟩⟩, hS.F ht⟩) hS.2.2 dX7_readCar_113
              · have hf := it_t hf c14
                refine lv_iconst (v := (0 : Int32)) hx hb dX7_readCar_80 (by decide) ?_
                have e9 := Option.some.inj hf
                rw [hQ]
                exact W.zret (v := (0 : Int32)) hx hb hr rfl (fun t ht hW => ⟨⟨(0 : Int32), (o13.2, s10), rfl, ⟨pr1 e9, pr2 e9⟩, ⟨by rw [ht]; exact hP, va_K.moved hW.alike hK, hD⟩⟩, hS.F ht⟩) hS.2.2 dX7_readCar_81
          · have hf := it_t hf c9
            refine lv_iconst (v := (0 : Int32)) hx hb dX7_readCar_48 (by decide) ?_
            have e9 := Option.some.inj hf
            rw [hQ]
            exact W.zret (v := (0 : Int32)) hx hb hr rfl (fun t ht hW => ⟨⟨(0 : Int32), (o8.2, sRo), rfl, ⟨pr1 e9, pr2 e9⟩, ⟨by rw [ht]; exact hP, va_K.moved hW.alike hK, hD⟩⟩, hS.F ht⟩) hS.2.2 dX7_readCar_49
      · have hf := it_t hf c5
        refine lv_iconst (v := (0 : Int32)) hx hb dX7_readCar_23 (by decide) ?_
        have e9 := Option.some.inj hf
        rw [hQ]
        exact W.zret (v := (0 : Int32)) hx hb hr rfl (fun t ht hW => ⟨⟨(0 : Int32), (o4.2, sRo), rfl, ⟨pr1 e9, pr2 e9⟩, ⟨by rw [ht]; exact hP, va_K.moved hW.alike hK, hD⟩⟩, hS.F ht⟩) hS.2.2 dX7_readCar_24
  rw [hHe] at hgo
  exact hgo

def wz_X7_isName : List Cond := .code yX7_isName cX7_isName 1 (some .boolean) :: wsL_law
abbrev r_X7_isName : Room := { frames := 5, cells := 0, slots := 0, locals := 107 }
set_option maxHeartbeats 4000000 in
set_option maxRecDepth 100000 in
theorem c_X7_isName (l : Launch) (D : va_G) (K : Nat → ClassId) (F : Nat) (adK adV : Nat → Nat) (tF : Nat) (hRd : Nat → Nat) (rRd4 : Nat) (aTp nTp : Nat) (sRd : MS) (fTp : (Nat → Int32)) (res : Int32) (hf : f_X7_isName F sRd nTp fTp = some res) : Met l yX7_isName wz_X7_isName r_X7_isName (va_Pc [.ref (hRd 99)] (PRz D K adK adV tF (wRd K hRd aTp rRd4 sRd ++ wAB K aTp nTp fTp))) (va_Qi (fun r (_ : Unit) => r = res) BN nOne) 0 0 nOne := by
  refine Met.ofW (cc := cX7_isName) (maxL := 1) (ret := (some .boolean)) (by decide) rfl ?_
  intro p e s m args below meth c s₁ B hml hv
  obtain ⟨hargs, ⟨hP, hK⟩, hZ⟩ := hv
  have hx := B.exec
  have hb := B.bytes
  have hr := B.returns
  have hts := atoms_spec (ws := wz_X7_isName) B.pre
  have htl : ∀ w ∈ wsL_law, w.before args s = true := fun w h => hts w (List.mem_cons_of_mem _ h)
  have hown : s.vm.findClass RX7 = some m.cls := findClass_of_methodNamed B.named
  have hlocks := B.notSynchronized
  have hS : va_S nOne s.heap s.heap [] := va_S.rf
  have iX7 : ∀ w ∈ wsX70, w ∈ wz_X7_isName := fun w h => List.mem_cons_of_mem _ (inlX7 w h)
  suffices hgo : ∀ Q : State → Prop, Q = MQ below (va_Qi (fun r (_ : Unit) => r = res) BN nOne) args s 0 0 nOne → W p l e (headSpec wz_X7_isName r_X7_isName).room s m args below meth c s.heap [] 0 0 Q (entryFrame m args 1) from hgo _ rfl
  intro Q hQ
  have hen : entryFrame m args 1 = entryFrame m (([.ref (hRd 99)] : List Value).toArray) 1 := by rw [hargs]
  have hl := lv_entry ([.ref (hRd 99)]) (n := 1) (Nat.le_of_ble_eq_true rfl)
  rw [hen, lg_entry_eq]
  generalize (lg_sl ([.ref (hRd 99)]) ++ List.replicate (1 - (lg_sl ([.ref (hRd 99)])).length) Slot.unset).toArray = ls at hl ⊢
  have hl : lv_has ls 1 [(0, .ref (hRd 99))] := hl
  unfold f_X7_isName at hf
  obtain ⟨H, hHe⟩ : ∃ z, z = s.heap := ⟨_, rfl⟩
  obtain ⟨locs, hLe⟩ : ∃ z : List Loc, z = [] := ⟨_, rfl⟩
  rw [← hLe]
  have hS : va_S nOne s.heap H locs := by rw [hHe, hLe]; exact hS
  have hP : va_P D vwCl (wRd K hRd aTp rRd4 sRd ++ wAB K aTp nTp fTp) H := by rw [hHe]; exact hP
  have hgo : W p l e (headSpec wz_X7_isName r_X7_isName).room s m args below meth c H locs 0 0 Q (F0 m 0 ls []) := by
    refine lv_aload_n hx hb dX7_isName_0 rfl (lv_at hl 0 rfl) ?_
    refine va_get (D := D) (ci := 6) (v := .int (sRd.1 5)) (C := RX7) (T := TX7) (N := 11) hx hb hts iX7 hown hK hP 0 (rwl o_Rd) rfl 5 (by decide) (htl _ (mB8 _ (List.mem_of_getElem? (i := 7) rfl))) (fun _ h9 => h9) rfl dX7_isName_1 ?_
    refine lv_iconst (v := (1 : Int32)) hx hb dX7_isName_4 (by decide) ?_
    refine lv_icmp_ne (tgt := 75) hx hb dX7_isName_5 (by decide) (fun c1 => ?_) (fun c1 => ?_)
    · have hf := it_f hf c1
      refine lv_iconst (v := (0 : Int32)) hx hb dX7_isName_75 (by decide) ?_
      have e9 := Option.some.inj hf
      rw [hQ]
      exact W.zret (v := (0 : Int32)) hx hb hr rfl (fun t ht hW => ⟨⟨(0 : Int32), (), rfl, e9, trivial⟩, hS.F ht⟩) hS.2.2 dX7_isName_76
    · have hf := it_t hf c1
      refine lv_aload_n hx hb dX7_isName_8 rfl (lv_at hl 0 rfl) ?_
      refine va_ldcS (own := RX7) (index := 66) (tx := "ca\x72") (q := adK 0) hx hb hown (hZ.2.2.2 (RX7, 66, "ca\x72", 0) (List.mem_of_getElem? (i := 15) rfl)) dX7_isName_9 ?_
      obtain ⟨o2, go2, hf⟩ := bd_s hf
      refine ro_Viz (As := [.ref (adK 0)]) (rest := []) ⟨hx, hb, hml, hown, hts⟩ (c_X7_isWord l D K F adK adV tF hRd rRd4 aTp nTp sRd fTp 0 o2 go2) (cwV 1 hts (gcV_X7_isWord (mB10 _ (List.mem_of_getElem? (i := 0) rfl))) rfl rfl rfl hdV_X7_isWord ⟨Nat.le_of_ble_eq_true rfl, Nat.le_of_ble_eq_true rfl⟩) hK hP hS hZ hP (va_recv hK hP (ci := 6) (q0 := 0) rfl (rwl o_Rd)) rfl hl.1 rfl (Nat.le_of_ble_eq_true rfl) dX7_isName_11 ⟨Nat.zero_le _, Nat.zero_le _⟩ (fun H locs hP hS => ?_)
      refine lv_if_ne (tgt := 75) hx hb dX7_isName_14 (by decide) (fun c3 => ?_) (fun c3 => ?_)
      · have hf := it_f hf c3
        refine lv_iconst (v := (0 : Int32)) hx hb dX7_isName_75 (by decide) ?_
        have e9 := Option.some.inj hf
        rw [hQ]
        exact W.zret (v := (0 : Int32)) hx hb hr rfl (fun t ht hW => ⟨⟨(0 : Int32), (), rfl, e9, trivial⟩, hS.F ht⟩) hS.2.2 dX7_isName_76
      · have hf := it_t hf c3
        refine lv_aload_n hx hb dX7_isName_17 rfl (lv_at hl 0 rfl) ?_
        refine va_ldcS (own := RX7) (index := 78) (tx := "place") (q := adK 1) hx hb hown (hZ.2.2.2 (RX7, 78, "place", 1) (List.mem_of_getElem? (i := 16) rfl)) dX7_isName_18 ?_
        obtain ⟨o4, go4, hf⟩ := bd_s hf
        refine ro_Viz (As := [.ref (adK 1)]) (rest := []) ⟨hx, hb, hml, hown, hts⟩ (c_X7_isWord l D K F adK adV tF hRd rRd4 aTp nTp sRd fTp 1 o4 go4) (cwV 1 hts (gcV_X7_isWord (mB10 _ (List.mem_of_getElem? (i := 0) rfl))) rfl rfl rfl hdV_X7_isWord ⟨Nat.le_of_ble_eq_true rfl, Nat.le_of_ble_eq_true rfl⟩) hK hP hS hZ hP (va_recv hK hP (ci := 6) (q0 := 0) rfl (rwl o_Rd)) rfl hl.1 rfl (Nat.le_of_ble_eq_true rfl) dX7_isName_20 ⟨Nat.zero_le _, Nat.zero_le _⟩ (fun H locs hP hS => ?_)
        refine lv_if_ne (tgt := 75) hx hb dX7_isName_23 (by decide) (fun c5 => ?_) (fun c5 => ?_)
        · have hf := it_f hf c5
          refine lv_iconst (v := (0 : Int32)) hx hb dX7_isName_75 (by decide) ?_
          have e9 := Option.some.inj hf
          rw [hQ]
          exact W.zret (v := (0 : Int32)) hx hb hr rfl (fun t ht hW => ⟨⟨(0 : Int32), (), rfl, e9, trivial⟩, hS.F ht⟩) hS.2.2 dX7_isName_76
        · have hf := it_t hf c5
          refine lv_aload_n hx hb dX7_isName_26 rfl (lv_at hl 0 rfl) ?_
          refine va_ldcS (own := RX7) (index := 80) (tx := "road") (q := adK 2) hx hb hown (hZ.2.2.2 (RX7, 80, "road", 2) (List.mem_of_getElem? (i := 17) rfl)) dX7_isName_27 ?_
          obtain ⟨o6, go6, hf⟩ := bd_s hf
          refine ro_Viz (As := [.ref (adK 2)]) (rest := []) ⟨hx, hb, hml, hown, hts⟩ (c_X7_isWord l D K F adK adV tF hRd rRd4 aTp nTp sRd fTp 2 o6 go6) (cwV 1 hts (gcV_X7_isWord (mB10 _ (List.mem_of_getElem? (i := 0) rfl))) rfl rfl rfl hdV_X7_isWord ⟨Nat.le_of_ble_eq_true rfl, Nat.le_of_ble_eq_true rfl⟩) hK hP hS hZ hP (va_recv hK hP (ci := 6) (q0 := 0) rfl (rwl o_Rd)) rfl hl.1 rfl (Nat.le_of_ble_eq_true rfl) dX7_isName_29 ⟨Nat.zero_le _, Nat.zero_le _⟩ (fun H locs hP hS => ?_)
          refine lv_if_ne (tgt := 75) hx hb dX7_isName_32 (by decide) (fun c7 => ?_) (fun c7 => ?_)
          · have hf := it_f hf c7
            refine lv_iconst (v := (0 : Int32)) hx hb dX7_isName_75 (by decide) ?_
            have e9 := Option.some.inj hf
            rw [hQ]
            exact W.zret (v := (0 : Int32)) hx hb hr rfl (fun t ht hW => ⟨⟨(0 : Int32), (), rfl, e9, trivial⟩, hS.F ht⟩) hS.2.2 dX7_isName_76
          · have hf := it_t hf c7
            refine lv_aload_n hx hb dX7_isName_35 rfl (lv_at hl 0 rfl) ?_
            refine va_ldcS (own := RX7) (index := 81) (tx := "pump") (q := adK 3) hx hb hown (hZ.2.2.2 (RX7, 81, "pump", 3) (List.mem_of_getElem? (i := 18) rfl)) dX7_isName_36 ?_
            obtain ⟨o8, go8, hf⟩ := bd_s hf
            refine ro_Viz (As := [.ref (adK 3)]) (rest := []) ⟨hx, hb, hml, hown, hts⟩ (c_X7_isWord l D K F adK adV tF hRd rRd4 aTp nTp sRd fTp 3 o8 go8) (cwV 1 hts (gcV_X7_isWord (mB10 _ (List.mem_of_getElem? (i := 0) rfl))) rfl rfl rfl hdV_X7_isWord ⟨Nat.le_of_ble_eq_true rfl, Nat.le_of_ble_eq_true rfl⟩) hK hP hS hZ hP (va_recv hK hP (ci := 6) (q0 := 0) rfl (rwl o_Rd)) rfl hl.1 rfl (Nat.le_of_ble_eq_true rfl) dX7_isName_38 ⟨Nat.zero_le _, Nat.zero_le _⟩ (fun H locs hP hS => ?_)
            refine lv_if_ne (tgt := 75) hx hb dX7_isName_41 (by decide) (fun c9 => ?_) (fun c9 => ?_)
            · have hf := it_f hf c9
              refine lv_iconst (v := (0 : Int32)) hx hb dX7_isName_75 (by decide) ?_
              have e9 := Option.some.inj hf
              rw [hQ]
              exact W.zret (v := (0 : Int32)) hx hb hr rfl (fun t ht hW => ⟨⟨(0 : Int32), (), rfl, e9, trivial⟩, hS.F ht⟩) hS.2.2 dX7_isName_76
            · have hf := it_t hf c9
              refine lv_aload_n hx hb dX7_isName_44 rfl (lv_at hl 0 rfl) ?_
              refine va_ldcS (own := RX7) (index := 83) (tx := "way") (q := adK 4) hx hb hown (hZ.2.2.2 (RX7, 83, "way", 4) (List.mem_of_getElem? (i := 19) rfl)) dX7_isName_45 ?_
              obtain ⟨o10, go10, hf⟩ := bd_s hf
              refine ro_Viz (As := [.ref (adK 4)]) (rest := []) ⟨hx, hb, hml, hown, hts⟩ (c_X7_isWord l D K F adK adV tF hRd rRd4 aTp nTp sRd fTp 4 o10 go10) (cwV 1 hts (gcV_X7_isWord (mB10 _ (List.mem_of_getElem? (i := 0) rfl))) rfl rfl rfl hdV_X7_isWord ⟨Nat.le_of_ble_eq_true rfl, Nat.le_of_ble_eq_true rfl⟩) hK hP hS hZ hP (va_recv hK hP (ci := 6) (q0 := 0) rfl (rwl o_Rd)) rfl hl.1 rfl (Nat.le_of_ble_eq_true rfl) dX7_isName_47 ⟨Nat.zero_le _, Nat.zero_le _⟩ (fun H locs hP hS => ?_)
              refine lv_if_ne (tgt := 75) hx hb dX7_isName_50 (by decide) (fun c11 => ?_) (fun c11 => ?_)
              · have hf := it_f hf c11
                refine lv_iconst (v := (0 : Int32)) hx hb dX7_isName_75 (by decide) ?_
                have e9 := Option.some.inj hf
                rw [hQ]
                exact W.zret (v := (0 : Int32)) hx hb hr rfl (fun t ht hW => ⟨⟨(0 : Int32), (), rfl, e9, trivial⟩, hS.F ht⟩) hS.2.2 dX7_isName_76
              · have hf := it_t hf c11
                refine lv_aload_n hx hb dX7_isName_53 rfl (lv_at hl 0 rfl) ?_
                refine va_ldcS (own := RX7) (index := 85) (tx := "receipt") (q := adK 5) hx hb hown (hZ.2.2.2 (RX7, 85, "receipt", 5) (List.mem_of_getElem? (i := 20) rfl)) dX7_isName_54 ?_
                obtain ⟨o12, go12, hf⟩ := bd_s hf
                refine ro_Viz (As := [.ref (adK 5)]) (rest := []) ⟨hx, hb, hml, hown, hts⟩ (c_X7_isWord l D K F adK adV tF hRd rRd4 aTp nTp sRd fTp 5 o12 go12) (cwV 1 hts (gcV_X7_isWord (mB10 _ (List.mem_of_getElem? (i := 0) rfl))) rfl rfl rfl hdV_X7_isWord ⟨Nat.le_of_ble_eq_true rfl, Nat.le_of_ble_eq_true rfl⟩) hK hP hS hZ hP (va_recv hK hP (ci := 6) (q0 := 0) rfl (rwl o_Rd)) rfl hl.1 rfl (Nat.le_of_ble_eq_true rfl) dX7_isName_56 ⟨Nat.zero_le _, Nat.zero_le _⟩ (fun H locs hP hS => ?_)
                refine lv_if_ne (tgt := 75) hx hb dX7_isName_59 (by decide) (fun c13 => ?_) (fun c13 => ?_)
                · have hf := it_f hf c13
                  refine lv_iconst (v := (0 : Int32)) hx hb dX7_isName_75 (by decide) ?_
                  have e9 := Option.some.inj hf
                  rw [hQ]
                  exact W.zret (v := (0 : Int32)) hx hb hr rfl (fun t ht hW => ⟨⟨(0 : Int32), (), rfl, e9, trivial⟩, hS.F ht⟩) hS.2.2 dX7_isName_76
                · have hf := it_t hf c13
                  refine lv_aload_n hx hb dX7_isName_62 rfl (lv_at hl 0 rfl) ?_
                  refine va_ldcS (own := RX7) (index := 170) (tx := "o\x72") (q := adK 13) hx hb hown (hZ.2.2.2 (RX7, 170, "o\x72", 13) (List.mem_of_getElem? (i := 28) rfl)) dX7_isName_63 ?_
                  obtain ⟨o14, go14, hf⟩ := bd_s hf
                  refine ro_Viz (As := [.ref (adK 13)]) (rest := []) ⟨hx, hb, hml, hown, hts⟩ (c_X7_isWord l D K F adK adV tF hRd rRd4 aTp nTp sRd fTp 13 o14 go14) (cwV 1 hts (gcV_X7_isWord (mB10 _ (List.mem_of_getElem? (i := 0) rfl))) rfl rfl rfl hdV_X7_isWord ⟨Nat.le_of_ble_eq_true rfl, Nat.le_of_ble_eq_true rfl⟩) hK hP hS hZ hP (va_recv hK hP (ci := 6) (q0 := 0) rfl (rwl o_Rd)) rfl hl.1 rfl (Nat.le_of_ble_eq_true rfl) dX7_isName_65 ⟨Nat.zero_le _, Nat.zero_le _⟩ (fun H locs hP hS => ?_)
                  refine lv_if_ne (tgt := 75) hx hb dX7_isName_68 (by decide) (fun c15 => ?_) (fun c15 => ?_)
                  · have hf := it_f hf c15
                    refine lv_iconst (v := (0 : Int32)) hx hb dX7_isName_75 (by decide) ?_
                    have e9 := Option.some.inj hf
                    rw [hQ]
                    exact W.zret (v := (0 : Int32)) hx hb hr rfl (fun t ht hW => ⟨⟨(0 : Int32), (), rfl, e9, trivial⟩, hS.F ht⟩) hS.2.2 dX7_isName_76
                  · have hf := it_t hf c15
                    refine lv_iconst (v := (1 : Int32)) hx hb dX7_isName_71 (by decide) ?_
                    refine lv_goto (tgt := 76) hx hb dX7_isName_72 (by decide) ?_
                    have e9 := Option.some.inj hf
                    rw [hQ]
                    exact W.zret (v := (1 : Int32)) hx hb hr rfl (fun t ht hW => ⟨⟨(1 : Int32), (), rfl, e9, trivial⟩, hS.F ht⟩) hS.2.2 dX7_isName_76
  rw [hHe] at hgo
  exact hgo

def wz_X7_isSameName : List Cond := .code yX7_isSameName cX7_isSameName 4 (some .boolean) :: wsL_law
abbrev r_X7_isSameName : Room := { frames := 0, cells := 0, slots := 0, locals := 0 }
set_option maxHeartbeats 4000000 in
set_option maxRecDepth 100000 in
theorem c_X7_isSameName (l : Launch) (D : va_G) (K : Nat → ClassId) (F : Nat) (hRd : Nat → Nat) (rRd4 : Nat) (aTp nTp : Nat) (sRd : MS) (fTp : (Nat → Int32)) (p1 : Int32) (res : Int32) (hf : f_X7_isSameName F sRd nTp fTp p1 = some res) : Met l yX7_isSameName wz_X7_isSameName r_X7_isSameName (va_Pc [.ref (hRd 99), .int p1] (PR D K (wRd K hRd aTp rRd4 sRd ++ wAB K aTp nTp fTp))) (va_Qi (fun r (_ : Unit) => r = res) BN nOne) 0 0 nOne := by
  refine Met.ofW (cc := cX7_isSameName) (maxL := 4) (ret := (some .boolean)) (by decide) rfl ?_
  intro p e s m args below meth c s₁ B hml hv
  obtain ⟨hargs, hP, hK⟩ := hv
  have hx := B.exec
  have hb := B.bytes
  have hr := B.returns
  have hts := atoms_spec (ws := wz_X7_isSameName) B.pre
  have htl : ∀ w ∈ wsL_law, w.before args s = true := fun w h => hts w (List.mem_cons_of_mem _ h)
  have hown : s.vm.findClass RX7 = some m.cls := findClass_of_methodNamed B.named
  have hlocks := B.notSynchronized
  have hS : va_S nOne s.heap s.heap [] := va_S.rf
  have iX7 : ∀ w ∈ wsX70, w ∈ wz_X7_isSameName := fun w h => List.mem_cons_of_mem _ (inlX7 w h)
  suffices hgo : ∀ Q : State → Prop, Q = MQ below (va_Qi (fun r (_ : Unit) => r = res) BN nOne) args s 0 0 nOne → W p l e (headSpec wz_X7_isSameName r_X7_isSameName).room s m args below meth c s.heap [] 0 0 Q (entryFrame m args 4) from hgo _ rfl
  intro Q hQ
  have w31 : ∀ (n : Nat), ∀ (x2 : Int32), ∀ (x3 : Int32), ∀ (H : Heap) (locs : List Loc) (ls : Array Slot), f_X7_isSameName_31 F sRd nTp fTp p1 n x2 x3 = some res → va_P D vwCl (wRd K hRd aTp rRd4 sRd ++ wAB K aTp nTp fTp) H → va_S nOne s.heap H locs → lv_has ls 4 [(0, .ref (hRd 99)), (1, .int p1), (2, .int x2), (3, .int x3)] → W p l e (headSpec wz_X7_isSameName r_X7_isSameName).room s m args below meth c H locs 0 0 Q (F0 m 31 ls []) := by
    intro n
    induction n with
    | zero =>
      intro x2 x3 H locs ls hf
      exact absurd (show none = some res from hf) (fun h => nomatch h)
    | succ n ih =>
      intro x2 x3 H locs ls hf hP hS hl
      rw [f_X7_isSameName_31] at hf
      refine lv_iload_n hx hb dX7_isSameName_31 rfl (lv_at hl 3 rfl) ?_
      refine lv_iload_n hx hb dX7_isSameName_32 rfl (lv_at hl 2 rfl) ?_
      refine lv_icmp_ge (tgt := 71) hx hb dX7_isSameName_33 (by decide) (fun c6 => ?_) (fun c6 => ?_)
      · have hf := it_t hf c6
        refine lv_iconst (v := (1 : Int32)) hx hb dX7_isSameName_71 (by decide) ?_
        have e9 := Option.some.inj hf
        rw [hQ]
        exact W.zret (v := (1 : Int32)) hx hb hr rfl (fun t ht hW => ⟨⟨(1 : Int32), (), rfl, e9, trivial⟩, hS.F ht⟩) hS.2.2 dX7_isSameName_72
      · have hf := it_f hf c6
        refine lv_aload_n hx hb dX7_isSameName_36 rfl (lv_at hl 0 rfl) ?_
        refine va_get (D := D) (ci := 6) (v := .ref aTp) (C := RX7) (T := TX7) (N := 11) hx hb hts iX7 hown hK hP 0 (rwl o_Rd) rfl 2 (by decide) (htl _ (mB3 _ (List.mem_of_getElem? (i := 16) rfl))) (fun _ h9 => h9) rfl dX7_isSameName_37 ?_
        refine lv_aload_n hx hb dX7_isSameName_40 rfl (lv_at hl 0 rfl) ?_
        refine va_get (D := D) (ci := 6) (v := .ref (hRd 9)) (C := RX7) (T := TX7) (N := 11) hx hb hts iX7 hown hK hP 0 (rwl o_Rd) rfl 9 (by decide) (htl _ (mB3 _ (List.mem_of_getElem? (i := 19) rfl))) (fun _ h9 => h9) rfl dX7_isSameName_41 ?_
        refine lv_iload_n hx hb dX7_isSameName_44 rfl (lv_at hl 1 rfl) ?_
        obtain ⟨g7, hf⟩ := gd_s hf
        refine va_iald hx hb hK hP 1 0 (f := sRd.2.2.1 9) (rwl a_Rd_9) rfl (vpb_in g7) dX7_isSameName_45 ?_
        refine lv_iload_n hx hb dX7_isSameName_46 rfl (lv_at hl 3 rfl) ?_
        refine lv_iadd hx hb dX7_isSameName_47 ?_
        obtain ⟨g8, hf⟩ := gd_s hf
        refine va_bald hx hb hK hP (3 + 0) 2 (f := fTp) (rwr ln_Rd o_AB) rfl (vpb_in g8) dX7_isSameName_48 ?_
        refine lv_topi (fun v9 ev9 => ?_)
        have hf := lz_s hf v9 ev9
        refine lv_aload_n hx hb dX7_isSameName_49 rfl (lv_at hl 0 rfl) ?_
        refine va_get (D := D) (ci := 6) (v := .ref aTp) (C := RX7) (T := TX7) (N := 11) hx hb hts iX7 hown hK hP 0 (rwl o_Rd) rfl 2 (by decide) (htl _ (mB3 _ (List.mem_of_getElem? (i := 16) rfl))) (fun _ h9 => h9) rfl dX7_isSameName_50 ?_
        refine lv_aload_n hx hb dX7_isSameName_53 rfl (lv_at hl 0 rfl) ?_
        refine va_get (D := D) (ci := 6) (v := .int (sRd.1 6)) (C := RX7) (T := TX7) (N := 11) hx hb hts iX7 hown hK hP 0 (rwl o_Rd) rfl 6 (by decide) (htl _ (mB9 _ (List.mem_of_getElem? (i := 6) rfl))) (fun _ h9 => h9) rfl dX7_isSameName_54 ?_
        refine lv_iload_n hx hb dX7_isSameName_57 rfl (lv_at hl 3 rfl) ?_
        refine lv_iadd hx hb dX7_isSameName_58 ?_
        obtain ⟨g10, hf⟩ := gd_s hf
        refine va_bald hx hb hK hP (3 + 0) 2 (f := fTp) (rwr ln_Rd o_AB) rfl (vpb_in g10) dX7_isSameName_59 ?_
        refine lv_topi (fun v11 ev11 => ?_)
        have hf := lz_s hf v11 ev11
        refine lv_icmp_eq (tgt := 65) hx hb dX7_isSameName_60 (by decide) (fun c12 => ?_) (fun c12 => ?_)
        · have hf := it_t hf c12
          obtain ⟨v13, ev13⟩ : ∃ z : Int32, z = x3 + (1 : Int32) := ⟨_, rfl⟩
          have hf := lz_s hf v13 ev13
          refine lv_iinc (v := v13) (lv' := [(3, .int v13), (0, .ref (hRd 99)), (1, .int p1), (2, .int x2)]) hx hb dX7_isSameName_65 hl (k := 3) rfl (by rw [ev13]; rfl) (by decide) rfl (fun ls hl => ?_)
          refine lv_goto (tgt := 31) hx hb dX7_isSameName_68 (by decide) ?_
          exact ih x2 v13 H locs ls hf hP hS (lv_sub hl [1, 2, 3, 0] rfl)
        · have hf := it_f hf c12
          refine lv_iconst (v := (0 : Int32)) hx hb dX7_isSameName_63 (by decide) ?_
          have e9 := Option.some.inj hf
          rw [hQ]
          exact W.zret (v := (0 : Int32)) hx hb hr rfl (fun t ht hW => ⟨⟨(0 : Int32), (), rfl, e9, trivial⟩, hS.F ht⟩) hS.2.2 dX7_isSameName_64
  have hen : entryFrame m args 4 = entryFrame m (([.ref (hRd 99), .int p1] : List Value).toArray) 4 := by rw [hargs]
  have hl := lv_entry ([.ref (hRd 99), .int p1]) (n := 4) (Nat.le_of_ble_eq_true rfl)
  rw [hen, lg_entry_eq]
  generalize (lg_sl ([.ref (hRd 99), .int p1]) ++ List.replicate (4 - (lg_sl ([.ref (hRd 99), .int p1])).length) Slot.unset).toArray = ls at hl ⊢
  have hl : lv_has ls 4 [(0, .ref (hRd 99)), (1, .int p1)] := hl
  unfold f_X7_isSameName at hf
  obtain ⟨H, hHe⟩ : ∃ z, z = s.heap := ⟨_, rfl⟩
  obtain ⟨locs, hLe⟩ : ∃ z : List Loc, z = [] := ⟨_, rfl⟩
  rw [← hLe]
  have hS : va_S nOne s.heap H locs := by rw [hHe, hLe]; exact hS
  have hP : va_P D vwCl (wRd K hRd aTp rRd4 sRd ++ wAB K aTp nTp fTp) H := by rw [hHe]; exact hP
  have hgo : W p l e (headSpec wz_X7_isSameName r_X7_isSameName).room s m args below meth c H locs 0 0 Q (F0 m 0 ls []) := by
    refine lv_aload_n hx hb dX7_isSameName_0 rfl (lv_at hl 0 rfl) ?_
    refine va_get (D := D) (ci := 6) (v := .ref (hRd 10)) (C := RX7) (T := TX7) (N := 11) hx hb hts iX7 hown hK hP 0 (rwl o_Rd) rfl 10 (by decide) (htl _ (mB3 _ (List.mem_of_getElem? (i := 20) rfl))) (fun _ h9 => h9) rfl dX7_isSameName_1 ?_
    refine lv_iload_n hx hb dX7_isSameName_4 rfl (lv_at hl 1 rfl) ?_
    obtain ⟨g1, hf⟩ := gd_s hf
    refine va_iald hx hb hK hP 2 0 (f := sRd.2.2.1 10) (rwl a_Rd_10) rfl (vpb_in g1) dX7_isSameName_5 ?_
    refine lv_topi (fun v2 ev2 => ?_)
    have hf := lz_s hf v2 ev2
    refine lv_aload_n hx hb dX7_isSameName_6 rfl (lv_at hl 0 rfl) ?_
    refine va_get (D := D) (ci := 6) (v := .ref (hRd 9)) (C := RX7) (T := TX7) (N := 11) hx hb hts iX7 hown hK hP 0 (rwl o_Rd) rfl 9 (by decide) (htl _ (mB3 _ (List.mem_of_getElem? (i := 19) rfl))) (fun _ h9 => h9) rfl dX7_isSameName_7 ?_
    refine lv_iload_n hx hb dX7_isSameName_10 rfl (lv_at hl 1 rfl) ?_
    obtain ⟨g3, hf⟩ := gd_s hf
    refine va_iald hx hb hK hP 1 0 (f := sRd.2.2.1 9) (rwl a_Rd_9) rfl (vpb_in g3) dX7_isSameName_11 ?_
    refine lv_isub hx hb dX7_isSameName_12 ?_
    refine lv_topi (fun v4 ev4 => ?_)
    have hf := lz_s hf v4 ev4
    refine lv_istore_n (lv' := [(2, .int v4), (0, .ref (hRd 99)), (1, .int p1)]) hx hb dX7_isSameName_13 rfl hl (by decide) rfl (fun ls hl => ?_)
    refine lv_iload_n hx hb dX7_isSameName_14 rfl (lv_at hl 0 rfl) ?_
    refine lv_aload_n hx hb dX7_isSameName_15 rfl (lv_at hl 1 rfl) ?_
    refine va_get (D := D) (ci := 6) (v := .int (sRd.1 7)) (C := RX7) (T := TX7) (N := 11) hx hb hts iX7 hown hK hP 0 (rwl o_Rd) rfl 7 (by decide) (htl _ (mB8 _ (List.mem_of_getElem? (i := 6) rfl))) (fun _ h9 => h9) rfl dX7_isSameName_16 ?_
    refine lv_aload_n hx hb dX7_isSameName_19 rfl (lv_at hl 1 rfl) ?_
    refine va_get (D := D) (ci := 6) (v := .int (sRd.1 6)) (C := RX7) (T := TX7) (N := 11) hx hb hts iX7 hown hK hP 0 (rwl o_Rd) rfl 6 (by decide) (htl _ (mB9 _ (List.mem_of_getElem? (i := 6) rfl))) (fun _ h9 => h9) rfl dX7_isSameName_20 ?_
    refine lv_isub hx hb dX7_isSameName_23 ?_
    refine lv_icmp_eq (tgt := 29) hx hb dX7_isSameName_24 (by decide) (fun c5 => ?_) (fun c5 => ?_)
    · have hf := it_t hf c5
      refine lv_iconst (v := (0 : Int32)) hx hb dX7_isSameName_29 (by decide) ?_
      refine lv_istore_n (lv' := [(3, .int (0 : Int32)), (2, .int v4), (0, .ref (hRd 99)), (1, .int p1)]) hx hb dX7_isSameName_30 rfl hl (by decide) rfl (fun ls hl => ?_)
      exact w31 F v4 (0 : Int32) H locs ls hf hP hS (lv_sub hl [2, 3, 1, 0] rfl)
    · have hf := it_f hf c5
      refine lv_iconst (v := (0 : Int32)) hx hb dX7_isSameName_27 (by decide) ?_
      have e9 := Option.some.inj hf
      rw [hQ]
      exact W.zret (v := (0 : Int32)) hx hb hr rfl (fun t ht hW => ⟨⟨(0 : Int32), (), rfl, e9, trivial⟩, hS.F ht⟩) hS.2.2 dX7_isSameName_28
  rw [hHe] at hgo
  exact hgo

theorem gcV_X7_isSameName {T0 : Cond} {own : String} {i : Nat} (h : Cond.methodLink own i yX7_isSameName ∈ wsL_law) : GoodIn (T0 :: wsL_law) (wsV own i RX7 yX7_isSameName wz_X7_isSameName) := gV h (mB14 _ (List.mem_of_getElem? (i := 3) rfl)) (mB14 _ (List.mem_of_getElem? (i := 4) rfl)) (mB1 _ (List.mem_of_getElem? (i := 22) rfl)) (mB14 _ (List.mem_of_getElem? (i := 5) rfl))
theorem hdV_X7_isSameName : yX7_isSameName.cls = RX7 ∧ yX7_isSameName.cls ≠ "java/lang/invoke/MethodHandle" ∧ yX7_isSameName.cls ≠ "java/lang/invoke/VarHandle" ∧ (parseMethodDescriptor yX7_isSameName.desc).map (fun d => d.parameters.length) = some 1 := by decide +kernel
def wz_X7_placeNamed : List Cond := .code yX7_placeNamed cX7_placeNamed 2 (some .int) :: wsL_law
abbrev r_X7_placeNamed : Room := { frames := 1, cells := 0, slots := 0, locals := 23 }
set_option maxHeartbeats 4000000 in
set_option maxRecDepth 100000 in
theorem c_X7_placeNamed (l : Launch) (D : va_G) (K : Nat → ClassId) (F : Nat) (hRd : Nat → Nat) (aTp nTp : Nat) (hRo : Nat → Nat) (sRd : MS) (fTp : (Nat → Int32)) (sRo : MS) (res : Int32) (hf : f_X7_placeNamed F sRd nTp fTp sRo = some res) : Met l yX7_placeNamed wz_X7_placeNamed r_X7_placeNamed (va_Pc [.ref (hRd 99)] (PR D K (wRd K hRd aTp (hRo 99) sRd ++ wAB K aTp nTp fTp ++ wRo K hRo sRo))) (va_Qi (fun r (_ : Unit) => r = res) BN nOne) 0 0 nOne := by
  refine Met.ofW (cc := cX7_placeNamed) (maxL := 2) (ret := (some .int)) (by decide) rfl ?_
  intro p e s m args below meth c s₁ B hml hv
  obtain ⟨hargs, hP, hK⟩ := hv
  have hx := B.exec
  have hb := B.bytes
  have hr := B.returns
  have hts := atoms_spec (ws := wz_X7_placeNamed) B.pre
  have htl : ∀ w ∈ wsL_law, w.before args s = true := fun w h => hts w (List.mem_cons_of_mem _ h)
  have hown : s.vm.findClass RX7 = some m.cls := findClass_of_methodNamed B.named
  have hlocks := B.notSynchronized
  have hS : va_S nOne s.heap s.heap [] := va_S.rf
  have iX7 : ∀ w ∈ wsX70, w ∈ wz_X7_placeNamed := fun w h => List.mem_cons_of_mem _ (inlX7 w h)
  have iX9 : ∀ w ∈ wsX90, w ∈ wz_X7_placeNamed := fun w h => List.mem_cons_of_mem _ (inlX9 w h)
  suffices hgo : ∀ Q : State → Prop, Q = MQ below (va_Qi (fun r (_ : Unit) => r = res) BN nOne) args s 0 0 nOne → W p l e (headSpec wz_X7_placeNamed r_X7_placeNamed).room s m args below meth c s.heap [] 0 0 Q (entryFrame m args 2) from hgo _ rfl
  intro Q hQ
  have w2 : ∀ (n : Nat), ∀ (x1 : Int32), ∀ (H : Heap) (locs : List Loc) (ls : Array Slot), f_X7_placeNamed_2 F sRd nTp fTp sRo n x1 = some res → va_P D vwCl (wRd K hRd aTp (hRo 99) sRd ++ wAB K aTp nTp fTp ++ wRo K hRo sRo) H → va_S nOne s.heap H locs → lv_has ls 2 [(0, .ref (hRd 99)), (1, .int x1)] → W p l e (headSpec wz_X7_placeNamed r_X7_placeNamed).room s m args below meth c H locs 0 0 Q (F0 m 2 ls []) := by
    intro n
    induction n with
    | zero =>
      intro x1 H locs ls hf
      exact absurd (show none = some res from hf) (fun h => nomatch h)
    | succ n ih =>
      intro x1 H locs ls hf hP hS hl
      rw [f_X7_placeNamed_2] at hf
      refine lv_iload_n hx hb dX7_placeNamed_2 rfl (lv_at hl 1 rfl) ?_
      refine lv_aload_n hx hb dX7_placeNamed_3 rfl (lv_at hl 0 rfl) ?_
      refine va_get (D := D) (ci := 6) (v := .ref (hRo 99)) (C := RX7) (T := TX7) (N := 11) hx hb hts iX7 hown hK hP 0 (rwl (rwl o_Rd)) rfl 4 (by decide) (htl _ (mB3 _ (List.mem_of_getElem? (i := 18) rfl))) (fun _ h9 => h9) rfl dX7_placeNamed_4 ?_
      refine va_get (D := D) (ci := 8) (v := .int (sRo.1 5)) (C := RX9) (T := TX9) (N := 19) hx hb hts iX9 hown hK hP ((3 + 1) + 0) (rwr (lnA ln_Rd ln_AB) o_Ro) rfl 5 (by decide) (htl _ (mB9 _ (List.mem_of_getElem? (i := 20) rfl))) (fun _ h9 => h9) rfl dX7_placeNamed_7 ?_
      refine lv_icmp_ge (tgt := 29) hx hb dX7_placeNamed_10 (by decide) (fun c1 => ?_) (fun c1 => ?_)
      · have hf := it_t hf c1
        refine lv_iconst (v := (-1 : Int32)) hx hb dX7_placeNamed_29 (by decide) ?_
        have e9 := Option.some.inj hf
        rw [hQ]
        exact W.iret (v := (-1 : Int32)) hx hb hr (fun t ht hW => ⟨⟨(-1 : Int32), (), rfl, e9, trivial⟩, hS.F ht⟩) hS.2.2 dX7_placeNamed_30
      · have hf := it_f hf c1
        refine lv_aload_n hx hb dX7_placeNamed_13 rfl (lv_at hl 0 rfl) ?_
        refine lv_iload_n hx hb dX7_placeNamed_14 rfl (lv_at hl 1 rfl) ?_
        obtain ⟨o2, go2, hf⟩ := bd_s hf
        refine ro_Vi (As := [.int x1]) (rest := []) ⟨hx, hb, hml, hown, hts⟩ (c_X7_isSameName l D K F hRd (hRo 99) aTp nTp sRd fTp x1 o2 go2) (cwV 1 hts (gcV_X7_isSameName (mB14 _ (List.mem_of_getElem? (i := 2) rfl))) rfl rfl rfl hdV_X7_isSameName ⟨Nat.le_of_ble_eq_true rfl, Nat.le_of_ble_eq_true rfl⟩) hK hP hS (va_PL (cs := [wRd K hRd aTp (hRo 99) sRd, wAB K aTp nTp fTp, wRo K hRo sRo]) (cc := [wRd K hRd aTp (hRo 99) sRd, wAB K aTp nTp fTp]) hP (fl3 _ _ _) [0, 1] rfl (fl2 _ _)) (va_recv hK hP (ci := 6) (q0 := 0) rfl (rwl (rwl o_Rd))) rfl hl.1 rfl (Nat.le_of_ble_eq_true rfl) dX7_placeNamed_15 ⟨Nat.zero_le _, Nat.zero_le _⟩ (fun H locs hP hS => ?_)
        refine lv_if_eq (tgt := 23) hx hb dX7_placeNamed_18 (by decide) (fun c3 => ?_) (fun c3 => ?_)
        · have hf := it_t hf c3
          obtain ⟨v4, ev4⟩ : ∃ z : Int32, z = x1 + (1 : Int32) := ⟨_, rfl⟩
          have hf := lz_s hf v4 ev4
          refine lv_iinc (v := v4) (lv' := [(1, .int v4), (0, .ref (hRd 99))]) hx hb dX7_placeNamed_23 hl (k := 1) rfl (by rw [ev4]; rfl) (by decide) rfl (fun ls hl => ?_)
          refine lv_goto (tgt := 2) hx hb dX7_placeNamed_26 (by decide) ?_
          exact ih v4 H locs ls hf hP hS (lv_sub hl [1, 0] rfl)
        · have hf := it_f hf c3
          refine lv_iload_n hx hb dX7_placeNamed_21 rfl (lv_at hl 1 rfl) ?_
          have e9 := Option.some.inj hf
          rw [hQ]
          exact W.iret (v := x1) hx hb hr (fun t ht hW => ⟨⟨x1, (), rfl, e9, trivial⟩, hS.F ht⟩) hS.2.2 dX7_placeNamed_22
  have hen : entryFrame m args 2 = entryFrame m (([.ref (hRd 99)] : List Value).toArray) 2 := by rw [hargs]
  have hl := lv_entry ([.ref (hRd 99)]) (n := 2) (Nat.le_of_ble_eq_true rfl)
  rw [hen, lg_entry_eq]
  generalize (lg_sl ([.ref (hRd 99)]) ++ List.replicate (2 - (lg_sl ([.ref (hRd 99)])).length) Slot.unset).toArray = ls at hl ⊢
  have hl : lv_has ls 2 [(0, .ref (hRd 99))] := hl
  unfold f_X7_placeNamed at hf
  obtain ⟨H, hHe⟩ : ∃ z, z = s.heap := ⟨_, rfl⟩
  obtain ⟨locs, hLe⟩ : ∃ z : List Loc, z = [] := ⟨_, rfl⟩
  rw [← hLe]
  have hS : va_S nOne s.heap H locs := by rw [hHe, hLe]; exact hS
  have hP : va_P D vwCl (wRd K hRd aTp (hRo 99) sRd ++ wAB K aTp nTp fTp ++ wRo K hRo sRo) H := by rw [hHe]; exact hP
  have hgo : W p l e (headSpec wz_X7_placeNamed r_X7_placeNamed).room s m args below meth c H locs 0 0 Q (F0 m 0 ls []) := by
    refine lv_iconst (v := (0 : Int32)) hx hb dX7_placeNamed_0 (by decide) ?_
    refine lv_istore_n (lv' := [(1, .int (0 : Int32)), (0, .ref (hRd 99))]) hx hb dX7_placeNamed_1 rfl hl (by decide) rfl (fun ls hl => ?_)
    exact w2 F (0 : Int32) H locs ls hf hP hS (lv_sub hl [1, 0] rfl)
  rw [hHe] at hgo
  exact hgo

theorem gcV_X7_isName {T0 : Cond} {own : String} {i : Nat} (h : Cond.methodLink own i yX7_isName ∈ wsL_law) : GoodIn (T0 :: wsL_law) (wsV own i RX7 yX7_isName wz_X7_isName) := gV h (mB13 _ (List.mem_of_getElem? (i := 19) rfl)) (mB13 _ (List.mem_of_getElem? (i := 20) rfl)) (mB1 _ (List.mem_of_getElem? (i := 22) rfl)) (mB13 _ (List.mem_of_getElem? (i := 21) rfl))
theorem hdV_X7_isName : yX7_isName.cls = RX7 ∧ yX7_isName.cls ≠ "java/lang/invoke/MethodHandle" ∧ yX7_isName.cls ≠ "java/lang/invoke/VarHandle" ∧ (parseMethodDescriptor yX7_isName.desc).map (fun d => d.parameters.length) = some 0 := by decide +kernel
theorem gcV_X7_placeNamed {T0 : Cond} {own : String} {i : Nat} (h : Cond.methodLink own i yX7_placeNamed ∈ wsL_law) : GoodIn (T0 :: wsL_law) (wsV own i RX7 yX7_placeNamed wz_X7_placeNamed) := gV h (mB13 _ (List.mem_of_getElem? (i := 23) rfl)) (mB14 _ (List.mem_of_getElem? (i := 0) rfl)) (mB1 _ (List.mem_of_getElem? (i := 22) rfl)) (mB14 _ (List.mem_of_getElem? (i := 1) rfl))
theorem hdV_X7_placeNamed : yX7_placeNamed.cls = RX7 ∧ yX7_placeNamed.cls ≠ "java/lang/invoke/MethodHandle" ∧ yX7_placeNamed.cls ≠ "java/lang/invoke/VarHandle" ∧ (parseMethodDescriptor yX7_placeNamed.desc).map (fun d => d.parameters.length) = some 0 := by decide +kernel
def wz_X7_readPlace : List Cond := .code yX7_readPlace cX7_readPlace 1 (some .boolean) :: wsL_law
abbrev r_X7_readPlace : Room := { frames := 6, cells := 0, slots := 0, locals := 127 }
set_option maxHeartbeats 4000000 in
set_option maxRecDepth 100000 in
theorem c_X7_readPlace (l : Launch) (D : va_G) (K : Nat → ClassId) (F : Nat) (adK adV : Nat → Nat) (tF : Nat) (hRd : Nat → Nat) (aTp nTp : Nat) (hRo : Nat → Nat) (sz : Nat) (sRd : MS) (fTp : (Nat → Int32)) (sRo : MS) (res : Int32 × MS × MS) (hf : f_X7_readPlace F nTp fTp sRd sRo = some res) : Met l yX7_readPlace wz_X7_readPlace r_X7_readPlace (va_Pc [.ref (hRd 99)] (PWz D K adK adV tF (wRd K hRd aTp (hRo 99) sRd ++ wAB K aTp nTp fTp ++ wRo K hRo sRo) sz)) (va_Qi (fun r u => r = res.1 ∧ u = res.2) (fun u t => BW D K (va_A (wRd K hRd aTp (hRo 99) sRd ++ wAB K aTp nTp fTp ++ wRo K hRo sRo) sz) (wRd K hRd aTp (hRo 99) u.1 ++ wAB K aTp nTp fTp ++ wRo K hRo u.2) t) (va_A (wRd K hRd aTp (hRo 99) sRd ++ wAB K aTp nTp fTp ++ wRo K hRo sRo) sz)) 0 0 (va_A (wRd K hRd aTp (hRo 99) sRd ++ wAB K aTp nTp fTp ++ wRo K hRo sRo) sz) := by
  refine Met.ofW (cc := cX7_readPlace) (maxL := 1) (ret := (some .boolean)) (by decide) rfl ?_
  intro p e s m args below meth c s₁ B hml hv
  obtain ⟨hargs, ⟨hsz, hP, hK, hD0⟩, hZ⟩ := hv
  have hx := B.exec
  have hb := B.bytes
  have hr := B.returns
  have hts := atoms_spec (ws := wz_X7_readPlace) B.pre
  have htl : ∀ w ∈ wsL_law, w.before args s = true := fun w h => hts w (List.mem_cons_of_mem _ h)
  have hown : s.vm.findClass RX7 = some m.cls := findClass_of_methodNamed B.named
  have hlocks := B.notSynchronized
  subst hsz
  have hD := hD0.self (sz := s.heap.size)
  generalize hAe : va_A (wRd K hRd aTp (hRo 99) sRd ++ wAB K aTp nTp fTp ++ wRo K hRo sRo) s.heap.size = A at hD hZ ⊢
  have hA : ∀ q : Nat, s.heap.size ≤ q → A q := fun q h => by rw [← hAe]; exact Or.inr h
  have hS : va_S A s.heap s.heap [] := va_S.rf
  have iX7 : ∀ w ∈ wsX70, w ∈ wz_X7_readPlace := fun w h => List.mem_cons_of_mem _ (inlX7 w h)
  have iX9 : ∀ w ∈ wsX90, w ∈ wz_X7_readPlace := fun w h => List.mem_cons_of_mem _ (inlX9 w h)
  suffices hgo : ∀ Q : State → Prop, Q = MQ below (va_Qi (fun r u => r = res.1 ∧ u = res.2) (fun u t => BW D K A (wRd K hRd aTp (hRo 99) u.1 ++ wAB K aTp nTp fTp ++ wRo K hRo u.2) t) A) args s 0 0 A → W p l e (headSpec wz_X7_readPlace r_X7_readPlace).room s m args below meth c s.heap [] 0 0 Q (entryFrame m args 1) from hgo _ rfl
  intro Q hQ
  have hen : entryFrame m args 1 = entryFrame m (([.ref (hRd 99)] : List Value).toArray) 1 := by rw [hargs]
  have hl := lv_entry ([.ref (hRd 99)]) (n := 1) (Nat.le_of_ble_eq_true rfl)
  rw [hen, lg_entry_eq]
  generalize (lg_sl ([.ref (hRd 99)]) ++ List.replicate (1 - (lg_sl ([.ref (hRd 99)])).length) Slot.unset).toArray = ls at hl ⊢
  have hl : lv_has ls 1 [(0, .ref (hRd 99))] := hl
  unfold f_X7_readPlace at hf
  obtain ⟨H, hHe⟩ : ∃ z, z = s.heap := ⟨_, rfl⟩
  obtain ⟨locs, hLe⟩ : ∃ z : List Loc, z = [] := ⟨_, rfl⟩
  rw [← hLe]
  have hS : va_S A s.heap H locs := by rw [hHe, hLe]; exact hS
  have hP : va_P D vwCl (wRd K hRd aTp (hRo 99) sRd ++ wAB K aTp nTp fTp ++ wRo K hRo sRo) H := by rw [hHe]; exact hP
  have hgo : W p l e (headSpec wz_X7_readPlace r_X7_readPlace).room s m args below meth c H locs 0 0 Q (F0 m 0 ls []) := by
    refine lv_aload_n hx hb dX7_readPlace_0 rfl (lv_at hl 0 rfl) ?_
    obtain ⟨o1, go1, hf⟩ := bd_s hf
    refine rk_Vv (wn := wRd K hRd aTp (hRo 99) o1 ++ wAB K aTp nTp fTp ++ wRo K hRo sRo) [wRd K hRd aTp (hRo 99) sRd, wAB K aTp nTp fTp, wRo K hRo sRo] [wRd K hRd aTp (hRo 99) sRd, wAB K aTp nTp fTp] [wRd K hRd aTp (hRo 99) o1, wAB K aTp nTp fTp] [wRd K hRd aTp (hRo 99) o1, wAB K aTp nTp fTp, wRo K hRo sRo] (As := []) (rest := []) ⟨hx, hb, hml, hown, hts⟩ (c_X7_lookOn l D K F hRd (hRo 99) aTp nTp H.size sRd fTp o1 go1) (cwV 0 hts (gcV_X7_lookOn (mB9 _ (List.mem_of_getElem? (i := 2) rfl))) rfl rfl rfl hdV_X7_lookOn ⟨Nat.le_of_ble_eq_true rfl, Nat.le_of_ble_eq_true rfl⟩) hK hP hD hS hA [0, 1] (fl3 _ _ _) rfl (by decide) (fl2 _ _) (fl2 _ _) rfl rfl (fl3 _ _ _) (va_recv hK hP (ci := 6) (q0 := 0) rfl (rwl (rwl o_Rd))) rfl hl.1 rfl (Nat.le_of_ble_eq_true rfl) dX7_readPlace_1 ⟨Nat.zero_le _, Nat.zero_le _⟩ (fun H locs hP hD hS => ?_)
    have hP : va_P D vwCl (wRd K hRd aTp (hRo 99) o1 ++ wAB K aTp nTp fTp ++ wRo K hRo sRo) H := hP
    have hD : va_D A (wRd K hRd aTp (hRo 99) o1 ++ wAB K aTp nTp fTp ++ wRo K hRo sRo) := hD
    refine lv_aload_n hx hb dX7_readPlace_4 rfl (lv_at hl 0 rfl) ?_
    obtain ⟨o2, go2, hf⟩ := bd_s hf
    refine ro_Viz (As := []) (rest := []) ⟨hx, hb, hml, hown, hts⟩ (c_X7_isName l D K F adK adV tF hRd (hRo 99) aTp nTp o1 fTp o2 go2) (cwV 0 hts (gcV_X7_isName (mB13 _ (List.mem_of_getElem? (i := 18) rfl))) rfl rfl rfl hdV_X7_isName ⟨Nat.le_of_ble_eq_true rfl, Nat.le_of_ble_eq_true rfl⟩) hK hP hS hZ (va_PL (cs := [wRd K hRd aTp (hRo 99) o1, wAB K aTp nTp fTp, wRo K hRo sRo]) (cc := [wRd K hRd aTp (hRo 99) o1, wAB K aTp nTp fTp]) hP (fl3 _ _ _) [0, 1] rfl (fl2 _ _)) (va_recv hK hP (ci := 6) (q0 := 0) rfl (rwl (rwl o_Rd))) rfl hl.1 rfl (Nat.le_of_ble_eq_true rfl) dX7_readPlace_5 ⟨Nat.zero_le _, Nat.zero_le _⟩ (fun H locs hP hS => ?_)
    refine lv_if_ne (tgt := 17) hx hb dX7_readPlace_8 (by decide) (fun c3 => ?_) (fun c3 => ?_)
    · have hf := it_f hf c3
      refine lv_aload_n hx hb dX7_readPlace_17 rfl (lv_at hl 0 rfl) ?_
      obtain ⟨o4, go4, hf⟩ := bd_s hf
      refine ro_Vi (As := []) (rest := []) ⟨hx, hb, hml, hown, hts⟩ (c_X7_placeNamed l D K F hRd aTp nTp hRo o1 fTp sRo o4 go4) (cwV 0 hts (gcV_X7_placeNamed (mB13 _ (List.mem_of_getElem? (i := 22) rfl))) rfl rfl rfl hdV_X7_placeNamed ⟨Nat.le_of_ble_eq_true rfl, Nat.le_of_ble_eq_true rfl⟩) hK hP hS hP (va_recv hK hP (ci := 6) (q0 := 0) rfl (rwl (rwl o_Rd))) rfl hl.1 rfl (Nat.le_of_ble_eq_true rfl) dX7_readPlace_18 ⟨Nat.zero_le _, Nat.zero_le _⟩ (fun H locs hP hS => ?_)
      refine lv_iconst (v := (-1 : Int32)) hx hb dX7_readPlace_21 (by decide) ?_
      refine lv_icmp_eq (tgt := 31) hx hb dX7_readPlace_22 (by decide) (fun c5 => ?_) (fun c5 => ?_)
      · have hf := it_t hf c5
        refine lv_aload_n hx hb dX7_readPlace_31 rfl (lv_at hl 0 rfl) ?_
        refine va_get (D := D) (ci := 6) (v := .ref (hRd 9)) (C := RX7) (T := TX7) (N := 11) hx hb hts iX7 hown hK hP 0 (rwl (rwl o_Rd)) rfl 9 (by decide) (htl _ (mB3 _ (List.mem_of_getElem? (i := 19) rfl))) (fun _ h9 => h9) rfl dX7_readPlace_32 ?_
        refine lv_aload_n hx hb dX7_readPlace_35 rfl (lv_at hl 0 rfl) ?_
        refine va_get (D := D) (ci := 6) (v := .ref (hRo 99)) (C := RX7) (T := TX7) (N := 11) hx hb hts iX7 hown hK hP 0 (rwl (rwl o_Rd)) rfl 4 (by decide) (htl _ (mB3 _ (List.mem_of_getElem? (i := 18) rfl))) (fun _ h9 => h9) rfl dX7_readPlace_36 ?_
        refine va_get (D := D) (ci := 8) (v := .int (sRo.1 5)) (C := RX9) (T := TX9) (N := 19) hx hb hts iX9 hown hK hP ((3 + 1) + 0) (rwr (lnA ln_Rd ln_AB) o_Ro) rfl 5 (by decide) (htl _ (mB9 _ (List.mem_of_getElem? (i := 20) rfl))) (fun _ h9 => h9) rfl dX7_readPlace_39 ?_
        refine lv_aload_n hx hb dX7_readPlace_42 rfl (lv_at hl 0 rfl) ?_
        refine va_get (D := D) (ci := 6) (v := .int (o1.1 6)) (C := RX7) (T := TX7) (N := 11) hx hb hts iX7 hown hK hP 0 (rwl (rwl o_Rd)) rfl 6 (by decide) (htl _ (mB9 _ (List.mem_of_getElem? (i := 6) rfl))) (fun _ h9 => h9) rfl dX7_readPlace_43 ?_
        obtain ⟨g6, hf⟩ := gd_s hf
        refine va_iast hx hb hK hP hD hS 1 0 (f := o1.2.2.1 9) (rwl (rwl a_Rd_9)) rfl (vpb_in g6) dX7_readPlace_46 (fun H locs hP hD hS => ?_)
        have hP := cvP (stl (stl sa_Rd_9 (rlt a_Rd_9)) (rlt (rwl a_Rd_9))) hP
        have hD := cvD (stl (stl sa_Rd_9 (rlt a_Rd_9)) (rlt (rwl a_Rd_9))) hD
        obtain ⟨s7, es7⟩ : ∃ z, z = sA o1 9 ((sRo.1 5).toNatClampNeg) (o1.1 6) := ⟨_, rfl⟩
        have hP : va_P D vwCl (wRd K hRd aTp (hRo 99) s7 ++ wAB K aTp nTp fTp ++ wRo K hRo sRo) H := by rw [es7]; exact hP
        have hD : va_D A (wRd K hRd aTp (hRo 99) s7 ++ wAB K aTp nTp fTp ++ wRo K hRo sRo) := by rw [es7]; exact hD
        have hf := lz_s hf s7 es7
        refine lv_aload_n hx hb dX7_readPlace_47 rfl (lv_at hl 0 rfl) ?_
        refine va_get (D := D) (ci := 6) (v := .ref (hRd 10)) (C := RX7) (T := TX7) (N := 11) hx hb hts iX7 hown hK hP 0 (rwl (rwl o_Rd)) rfl 10 (by decide) (htl _ (mB3 _ (List.mem_of_getElem? (i := 20) rfl))) (fun _ h9 => h9) rfl dX7_readPlace_48 ?_
        refine lv_aload_n hx hb dX7_readPlace_51 rfl (lv_at hl 0 rfl) ?_
        refine va_get (D := D) (ci := 6) (v := .ref (hRo 99)) (C := RX7) (T := TX7) (N := 11) hx hb hts iX7 hown hK hP 0 (rwl (rwl o_Rd)) rfl 4 (by decide) (htl _ (mB3 _ (List.mem_of_getElem? (i := 18) rfl))) (fun _ h9 => h9) rfl dX7_readPlace_52 ?_
        refine va_get (D := D) (ci := 8) (v := .int (sRo.1 5)) (C := RX9) (T := TX9) (N := 19) hx hb hts iX9 hown hK hP ((3 + 1) + 0) (rwr (lnA ln_Rd ln_AB) o_Ro) rfl 5 (by decide) (htl _ (mB9 _ (List.mem_of_getElem? (i := 20) rfl))) (fun _ h9 => h9) rfl dX7_readPlace_55 ?_
        refine lv_aload_n hx hb dX7_readPlace_58 rfl (lv_at hl 0 rfl) ?_
        refine va_get (D := D) (ci := 6) (v := .int (s7.1 7)) (C := RX7) (T := TX7) (N := 11) hx hb hts iX7 hown hK hP 0 (rwl (rwl o_Rd)) rfl 7 (by decide) (htl _ (mB8 _ (List.mem_of_getElem? (i := 6) rfl))) (fun _ h9 => h9) rfl dX7_readPlace_59 ?_
        obtain ⟨g8, hf⟩ := gd_s hf
        refine va_iast hx hb hK hP hD hS 2 0 (f := s7.2.2.1 10) (rwl (rwl a_Rd_10)) rfl (vpb_in g8) dX7_readPlace_62 (fun H locs hP hD hS => ?_)
        have hP := cvP (stl (stl sa_Rd_10 (rlt a_Rd_10)) (rlt (rwl a_Rd_10))) hP
        have hD := cvD (stl (stl sa_Rd_10 (rlt a_Rd_10)) (rlt (rwl a_Rd_10))) hD
        obtain ⟨s9, es9⟩ : ∃ z, z = sA s7 10 ((sRo.1 5).toNatClampNeg) (s7.1 7) := ⟨_, rfl⟩
        have hP : va_P D vwCl (wRd K hRd aTp (hRo 99) s9 ++ wAB K aTp nTp fTp ++ wRo K hRo sRo) H := by rw [es9]; exact hP
        have hD : va_D A (wRd K hRd aTp (hRo 99) s9 ++ wAB K aTp nTp fTp ++ wRo K hRo sRo) := by rw [es9]; exact hD
        have hf := lz_s hf s9 es9
        refine lv_aload_n hx hb dX7_readPlace_63 rfl (lv_at hl 0 rfl) ?_
        refine va_get (D := D) (ci := 6) (v := .ref (hRo 99)) (C := RX7) (T := TX7) (N := 11) hx hb hts iX7 hown hK hP 0 (rwl (rwl o_Rd)) rfl 4 (by decide) (htl _ (mB3 _ (List.mem_of_getElem? (i := 18) rfl))) (fun _ h9 => h9) rfl dX7_readPlace_64 ?_
        refine lv_dup hx hb dX7_readPlace_67 rfl ?_
        refine va_get (D := D) (ci := 8) (v := .int (sRo.1 5)) (C := RX9) (T := TX9) (N := 19) hx hb hts iX9 hown hK hP ((3 + 1) + 0) (rwr (lnA ln_Rd ln_AB) o_Ro) rfl 5 (by decide) (htl _ (mB9 _ (List.mem_of_getElem? (i := 20) rfl))) (fun _ h9 => h9) rfl dX7_readPlace_68 ?_
        refine lv_iconst (v := (1 : Int32)) hx hb dX7_readPlace_71 (by decide) ?_
        refine lv_iadd hx hb dX7_readPlace_72 ?_
        refine lv_topi (fun v10 ev10 => ?_)
        have hf := lz_s hf v10 ev10
        refine va_put (D := D) (ci := 8) (v := .int v10) (ty := .int) (C := RX9) (T := TX9) (N := 19) hx hb hts iX9 tyX9 tyX9_ok nmX9 hown hK hP hD hS ((3 + 1) + 0) (rwr (lnA ln_Rd ln_AB) o_Ro) rfl 5 (by decide) (htl _ (mB9 _ (List.mem_of_getElem? (i := 20) rfl))) (fun _ h9 => h9) rfl (by decide +kernel) rfl rfl (Nat.le_of_ble_eq_true rfl) dX7_readPlace_73 (fun H locs hP hD hS => ?_)
        have hP := cvP (str (lnA ln_Rd ln_AB) si_Ro_5) hP
        have hD := cvD (str (lnA ln_Rd ln_AB) si_Ro_5) hD
        obtain ⟨s11, es11⟩ : ∃ z, z = sI sRo 5 v10 := ⟨_, rfl⟩
        have hP : va_P D vwCl (wRd K hRd aTp (hRo 99) s9 ++ wAB K aTp nTp fTp ++ wRo K hRo s11) H := by rw [es11]; exact hP
        have hD : va_D A (wRd K hRd aTp (hRo 99) s9 ++ wAB K aTp nTp fTp ++ wRo K hRo s11) := by rw [es11]; exact hD
        have hf := lz_s hf s11 es11
        refine lv_aload_n hx hb dX7_readPlace_76 rfl (lv_at hl 0 rfl) ?_
        obtain ⟨o12, go12, hf⟩ := bd_s hf
        refine rk_Vv (wn := wRd K hRd aTp (hRo 99) o12 ++ wAB K aTp nTp fTp ++ wRo K hRo s11) [wRd K hRd aTp (hRo 99) s9, wAB K aTp nTp fTp, wRo K hRo s11] [wRd K hRd aTp (hRo 99) s9, wAB K aTp nTp fTp] [wRd K hRd aTp (hRo 99) o12, wAB K aTp nTp fTp] [wRd K hRd aTp (hRo 99) o12, wAB K aTp nTp fTp, wRo K hRo s11] (As := []) (rest := []) ⟨hx, hb, hml, hown, hts⟩ (c_X7_lookOn l D K F hRd (hRo 99) aTp nTp H.size s9 fTp o12 go12) (cwV 0 hts (gcV_X7_lookOn (mB9 _ (List.mem_of_getElem? (i := 2) rfl))) rfl rfl rfl hdV_X7_lookOn ⟨Nat.le_of_ble_eq_true rfl, Nat.le_of_ble_eq_true rfl⟩) hK hP hD hS hA [0, 1] (fl3 _ _ _) rfl (by decide) (fl2 _ _) (fl2 _ _) rfl rfl (fl3 _ _ _) (va_recv hK hP (ci := 6) (q0 := 0) rfl (rwl (rwl o_Rd))) rfl hl.1 rfl (Nat.le_of_ble_eq_true rfl) dX7_readPlace_77 ⟨Nat.zero_le _, Nat.zero_le _⟩ (fun H locs hP hD hS => ?_)
        have hP : va_P D vwCl (wRd K hRd aTp (hRo 99) o12 ++ wAB K aTp nTp fTp ++ wRo K hRo s11) H := hP
        have hD : va_D A (wRd K hRd aTp (hRo 99) o12 ++ wAB K aTp nTp fTp ++ wRo K hRo s11) := hD
        refine lv_iconst (v := (1 : Int32)) hx hb dX7_readPlace_80 (by decide) ?_
        have e9 := Option.some.inj hf
        rw [hQ]
        exact W.zret (v := (1 : Int32)) hx hb hr rfl (fun t ht hW => ⟨⟨(1 : Int32), (o12, s11), rfl, ⟨pr1 e9, pr2 e9⟩, ⟨by rw [ht]; exact hP, va_K.moved hW.alike hK, hD⟩⟩, hS.F ht⟩) hS.2.2 dX7_readPlace_81
      · have hf := it_f hf c5
        refine lv_aload_n hx hb dX7_readPlace_25 rfl (lv_at hl 0 rfl) ?_
        refine lv_iconst (v := (3 : Int32)) hx hb dX7_readPlace_26 (by decide) ?_
        obtain ⟨o13, go13, hf⟩ := bd_s hf
        refine rk_Vi (wn := wRd K hRd aTp (hRo 99) o13.2 ++ wAB K aTp nTp fTp ++ wRo K hRo sRo) [wRd K hRd aTp (hRo 99) o1, wAB K aTp nTp fTp, wRo K hRo sRo] [wRd K hRd aTp (hRo 99) o1] [wRd K hRd aTp (hRo 99) o13.2] [wRd K hRd aTp (hRo 99) o13.2, wAB K aTp nTp fTp, wRo K hRo sRo] (As := [.int (3 : Int32)]) (rest := []) ⟨hx, hb, hml, hown, hts⟩ (c_X7_failWith l D K F hRd aTp (hRo 99) H.size o1 (3 : Int32) o13 go13) (cwV 1 hts (gcV_X7_failWith (mB12 _ (List.mem_of_getElem? (i := 5) rfl))) rfl rfl rfl hdV_X7_failWith ⟨Nat.le_of_ble_eq_true rfl, Nat.le_of_ble_eq_true rfl⟩) hK hP hD hS hA [0] (fl3 _ _ _) rfl (by decide) (fl1 _) (fl1 _) rfl rfl (fl3 _ _ _) (va_recv hK hP (ci := 6) (q0 := 0) rfl (rwl (rwl o_Rd))) rfl hl.1 rfl (Nat.le_of_ble_eq_true rfl) dX7_readPlace_27 ⟨Nat.zero_le _, Nat.zero_le _⟩ (fun H locs hP hD hS => ?_)
        have hP : va_P D vwCl (wRd K hRd aTp (hRo 99) o13.2 ++ wAB K aTp nTp fTp ++ wRo K hRo sRo) H := hP
        have hD : va_D A (wRd K hRd aTp (hRo 99) o13.2 ++ wAB K aTp nTp fTp ++ wRo K hRo sRo) := hD
        obtain ⟨g14, hf⟩ := gd_s hf
        have e9 := Option.some.inj hf
        rw [hQ]
        exact W.zret (v := o13.1) hx hb hr (bob_s g14) (fun t ht hW => ⟨⟨o13.1, (o13.2, sRo), rfl, ⟨pr1 e9, pr2 e9⟩, ⟨by rw [ht]; exact hP, va_K.moved hW.alike hK, hD⟩⟩, hS.F ht⟩) hS.2.2 dX7_readPlace_30
    · have hf := it_t hf c3
      refine lv_aload_n hx hb dX7_readPlace_11 rfl (lv_at hl 0 rfl) ?_
      refine lv_iconst (v := (1 : Int32)) hx hb dX7_readPlace_12 (by decide) ?_
      obtain ⟨o15, go15, hf⟩ := bd_s hf
      refine rk_Vi (wn := wRd K hRd aTp (hRo 99) o15.2 ++ wAB K aTp nTp fTp ++ wRo K hRo sRo) [wRd K hRd aTp (hRo 99) o1, wAB K aTp nTp fTp, wRo K hRo sRo] [wRd K hRd aTp (hRo 99) o1] [wRd K hRd aTp (hRo 99) o15.2] [wRd K hRd aTp (hRo 99) o15.2, wAB K aTp nTp fTp, wRo K hRo sRo] (As := [.int (1 : Int32)]) (rest := []) ⟨hx, hb, hml, hown, hts⟩ (c_X7_failWith l D K F hRd aTp (hRo 99) H.size o1 (1 : Int32) o15 go15) (cwV 1 hts (gcV_X7_failWith (mB12 _ (List.mem_of_getElem? (i := 5) rfl))) rfl rfl rfl hdV_X7_failWith ⟨Nat.le_of_ble_eq_true rfl, Nat.le_of_ble_eq_true rfl⟩) hK hP hD hS hA [0] (fl3 _ _ _) rfl (by decide) (fl1 _) (fl1 _) rfl rfl (fl3 _ _ _) (va_recv hK hP (ci := 6) (q0 := 0) rfl (rwl (rwl o_Rd))) rfl hl.1 rfl (Nat.le_of_ble_eq_true rfl) dX7_readPlace_13 ⟨Nat.zero_le _, Nat.zero_le _⟩ (fun H locs hP hD hS => ?_)
      have hP : va_P D vwCl (wRd K hRd aTp (hRo 99) o15.2 ++ wAB K aTp nTp fTp ++ wRo K hRo sRo) H := hP
      have hD : va_D A (wRd K hRd aTp (hRo 99) o15.2 ++ wAB K aTp nTp fTp ++ wRo K hRo sRo) := hD
      obtain ⟨g16, hf⟩ := gd_s hf
      have e9 := Option.some.inj hf
      rw [hQ]
      exact W.zret (v := o15.1) hx hb hr (bob_s g16) (fun t ht hW => ⟨⟨o15.1, (o15.2, sRo), rfl, ⟨pr1 e9, pr2 e9⟩, ⟨by rw [ht]; exact hP, va_K.moved hW.alike hK, hD⟩⟩, hS.F ht⟩) hS.2.2 dX7_readPlace_16
  rw [hHe] at hgo
  exact hgo

def wz_X7_isToldName : List Cond := .code yX7_isToldName cX7_isToldName 1 (some .boolean) :: wsL_law
abbrev r_X7_isToldName : Room := { frames := 6, cells := 0, slots := 0, locals := 127 }
set_option maxHeartbeats 4000000 in
set_option maxRecDepth 100000 in
theorem c_X7_isToldName (l : Launch) (D : va_G) (K : Nat → ClassId) (F : Nat) (adK adV : Nat → Nat) (tF : Nat) (hRd : Nat → Nat) (aTp nTp : Nat) (hRo : Nat → Nat) (sz : Nat) (sRd : MS) (fTp : (Nat → Int32)) (sRo : MS) (res : Int32 × MS) (hf : f_X7_isToldName F nTp fTp sRo sRd = some res) : Met l yX7_isToldName wz_X7_isToldName r_X7_isToldName (va_Pc [.ref (hRd 99)] (PWz D K adK adV tF (wRd K hRd aTp (hRo 99) sRd ++ wAB K aTp nTp fTp ++ wRo K hRo sRo) sz)) (va_Qi (fun r u => r = res.1 ∧ u = res.2) (fun u t => BW D K (va_A (wRd K hRd aTp (hRo 99) sRd ++ wAB K aTp nTp fTp ++ wRo K hRo sRo) sz) (wRd K hRd aTp (hRo 99) u ++ wAB K aTp nTp fTp ++ wRo K hRo sRo) t) (va_A (wRd K hRd aTp (hRo 99) sRd ++ wAB K aTp nTp fTp ++ wRo K hRo sRo) sz)) 0 0 (va_A (wRd K hRd aTp (hRo 99) sRd ++ wAB K aTp nTp fTp ++ wRo K hRo sRo) sz) := by
  refine Met.ofW (cc := cX7_isToldName) (maxL := 1) (ret := (some .boolean)) (by decide) rfl ?_
  intro p e s m args below meth c s₁ B hml hv
  obtain ⟨hargs, ⟨hsz, hP, hK, hD0⟩, hZ⟩ := hv
  have hx := B.exec
  have hb := B.bytes
  have hr := B.returns
  have hts := atoms_spec (ws := wz_X7_isToldName) B.pre
  have htl : ∀ w ∈ wsL_law, w.before args s = true := fun w h => hts w (List.mem_cons_of_mem _ h)
  have hown : s.vm.findClass RX7 = some m.cls := findClass_of_methodNamed B.named
  have hlocks := B.notSynchronized
  subst hsz
  have hD := hD0.self (sz := s.heap.size)
  generalize hAe : va_A (wRd K hRd aTp (hRo 99) sRd ++ wAB K aTp nTp fTp ++ wRo K hRo sRo) s.heap.size = A at hD hZ ⊢
  have hA : ∀ q : Nat, s.heap.size ≤ q → A q := fun q h => by rw [← hAe]; exact Or.inr h
  have hS : va_S A s.heap s.heap [] := va_S.rf
  suffices hgo : ∀ Q : State → Prop, Q = MQ below (va_Qi (fun r u => r = res.1 ∧ u = res.2) (fun u t => BW D K A (wRd K hRd aTp (hRo 99) u ++ wAB K aTp nTp fTp ++ wRo K hRo sRo) t) A) args s 0 0 A → W p l e (headSpec wz_X7_isToldName r_X7_isToldName).room s m args below meth c s.heap [] 0 0 Q (entryFrame m args 1) from hgo _ rfl
  intro Q hQ
  have w29 : ∀ (sRd : MS), ∀ (H : Heap) (locs : List Loc) (ls : Array Slot), f_X7_isToldName_29 F nTp fTp sRo sRd = some res → va_P D vwCl (wRd K hRd aTp (hRo 99) sRd ++ wAB K aTp nTp fTp ++ wRo K hRo sRo) H → va_D A (wRd K hRd aTp (hRo 99) sRd ++ wAB K aTp nTp fTp ++ wRo K hRo sRo) → va_S A s.heap H locs → lv_has ls 1 [] → W p l e (headSpec wz_X7_isToldName r_X7_isToldName).room s m args below meth c H locs 0 0 Q (F0 m 29 ls []) := by
    intro sRd H locs ls hf hP hD hS hl
    unfold f_X7_isToldName_29 at hf
    refine lv_iconst (v := (1 : Int32)) hx hb dX7_isToldName_29 (by decide) ?_
    refine lv_goto (tgt := 34) hx hb dX7_isToldName_30 (by decide) ?_
    have e9 := Option.some.inj hf
    rw [hQ]
    exact W.zret (v := (1 : Int32)) hx hb hr rfl (fun t ht hW => ⟨⟨(1 : Int32), sRd, rfl, ⟨pr1 e9, pr2 e9⟩, ⟨by rw [ht]; exact hP, va_K.moved hW.alike hK, hD⟩⟩, hS.F ht⟩) hS.2.2 dX7_isToldName_34
  have hen : entryFrame m args 1 = entryFrame m (([.ref (hRd 99)] : List Value).toArray) 1 := by rw [hargs]
  have hl := lv_entry ([.ref (hRd 99)]) (n := 1) (Nat.le_of_ble_eq_true rfl)
  rw [hen, lg_entry_eq]
  generalize (lg_sl ([.ref (hRd 99)]) ++ List.replicate (1 - (lg_sl ([.ref (hRd 99)])).length) Slot.unset).toArray = ls at hl ⊢
  have hl : lv_has ls 1 [(0, .ref (hRd 99))] := hl
  unfold f_X7_isToldName at hf
  obtain ⟨H, hHe⟩ : ∃ z, z = s.heap := ⟨_, rfl⟩
  obtain ⟨locs, hLe⟩ : ∃ z : List Loc, z = [] := ⟨_, rfl⟩
  rw [← hLe]
  have hS : va_S A s.heap H locs := by rw [hHe, hLe]; exact hS
  have hP : va_P D vwCl (wRd K hRd aTp (hRo 99) sRd ++ wAB K aTp nTp fTp ++ wRo K hRo sRo) H := by rw [hHe]; exact hP
  have hgo : W p l e (headSpec wz_X7_isToldName r_X7_isToldName).room s m args below meth c H locs 0 0 Q (F0 m 0 ls []) := by
    refine lv_aload_n hx hb dX7_isToldName_0 rfl (lv_at hl 0 rfl) ?_
    obtain ⟨o1, go1, hf⟩ := bd_s hf
    refine ro_Viz (As := []) (rest := []) ⟨hx, hb, hml, hown, hts⟩ (c_X7_isName l D K F adK adV tF hRd (hRo 99) aTp nTp sRd fTp o1 go1) (cwV 0 hts (gcV_X7_isName (mB13 _ (List.mem_of_getElem? (i := 18) rfl))) rfl rfl rfl hdV_X7_isName ⟨Nat.le_of_ble_eq_true rfl, Nat.le_of_ble_eq_true rfl⟩) hK hP hS hZ (va_PL (cs := [wRd K hRd aTp (hRo 99) sRd, wAB K aTp nTp fTp, wRo K hRo sRo]) (cc := [wRd K hRd aTp (hRo 99) sRd, wAB K aTp nTp fTp]) hP (fl3 _ _ _) [0, 1] rfl (fl2 _ _)) (va_recv hK hP (ci := 6) (q0 := 0) rfl (rwl (rwl o_Rd))) rfl hl.1 rfl (Nat.le_of_ble_eq_true rfl) dX7_isToldName_1 ⟨Nat.zero_le _, Nat.zero_le _⟩ (fun H locs hP hS => ?_)
    refine lv_if_ne (tgt := 13) hx hb dX7_isToldName_4 (by decide) (fun c2 => ?_) (fun c2 => ?_)
    · have hf := it_f hf c2
      refine lv_aload_n hx hb dX7_isToldName_13 rfl (lv_at hl 0 rfl) ?_
      obtain ⟨o3, go3, hf⟩ := bd_s hf
      refine ro_Vi (As := []) (rest := []) ⟨hx, hb, hml, hown, hts⟩ (c_X7_placeNamed l D K F hRd aTp nTp hRo sRd fTp sRo o3 go3) (cwV 0 hts (gcV_X7_placeNamed (mB13 _ (List.mem_of_getElem? (i := 22) rfl))) rfl rfl rfl hdV_X7_placeNamed ⟨Nat.le_of_ble_eq_true rfl, Nat.le_of_ble_eq_true rfl⟩) hK hP hS hP (va_recv hK hP (ci := 6) (q0 := 0) rfl (rwl (rwl o_Rd))) rfl hl.1 rfl (Nat.le_of_ble_eq_true rfl) dX7_isToldName_14 ⟨Nat.zero_le _, Nat.zero_le _⟩ (fun H locs hP hS => ?_)
      refine lv_iconst (v := (-1 : Int32)) hx hb dX7_isToldName_17 (by decide) ?_
      refine lv_icmp_ne (tgt := 29) hx hb dX7_isToldName_18 (by decide) (fun c4 => ?_) (fun c4 => ?_)
      · have hf := it_f hf c4
        exact w29 sRd H locs ls hf hP hD hS (lv_sub hl [] rfl)
      · have hf := it_t hf c4
        refine lv_aload_n hx hb dX7_isToldName_21 rfl (lv_at hl 0 rfl) ?_
        refine lv_iconst (v := (2 : Int32)) hx hb dX7_isToldName_22 (by decide) ?_
        obtain ⟨o5, go5, hf⟩ := bd_s hf
        refine rk_Vi (wn := wRd K hRd aTp (hRo 99) o5.2 ++ wAB K aTp nTp fTp ++ wRo K hRo sRo) [wRd K hRd aTp (hRo 99) sRd, wAB K aTp nTp fTp, wRo K hRo sRo] [wRd K hRd aTp (hRo 99) sRd] [wRd K hRd aTp (hRo 99) o5.2] [wRd K hRd aTp (hRo 99) o5.2, wAB K aTp nTp fTp, wRo K hRo sRo] (As := [.int (2 : Int32)]) (rest := []) ⟨hx, hb, hml, hown, hts⟩ (c_X7_failWith l D K F hRd aTp (hRo 99) H.size sRd (2 : Int32) o5 go5) (cwV 1 hts (gcV_X7_failWith (mB12 _ (List.mem_of_getElem? (i := 5) rfl))) rfl rfl rfl hdV_X7_failWith ⟨Nat.le_of_ble_eq_true rfl, Nat.le_of_ble_eq_true rfl⟩) hK hP hD hS hA [0] (fl3 _ _ _) rfl (by decide) (fl1 _) (fl1 _) rfl rfl (fl3 _ _ _) (va_recv hK hP (ci := 6) (q0 := 0) rfl (rwl (rwl o_Rd))) rfl hl.1 rfl (Nat.le_of_ble_eq_true rfl) dX7_isToldName_23 ⟨Nat.zero_le _, Nat.zero_le _⟩ (fun H locs hP hD hS => ?_)
        have hP : va_P D vwCl (wRd K hRd aTp (hRo 99) o5.2 ++ wAB K aTp nTp fTp ++ wRo K hRo sRo) H := hP
        have hD : va_D A (wRd K hRd aTp (hRo 99) o5.2 ++ wAB K aTp nTp fTp ++ wRo K hRo sRo) := hD
        refine lv_if_eq (tgt := 33) hx hb dX7_isToldName_26 (by decide) (fun c6 => ?_) (fun c6 => ?_)
        · have hf := it_t hf c6
          refine lv_iconst (v := (0 : Int32)) hx hb dX7_isToldName_33 (by decide) ?_
          have e9 := Option.some.inj hf
          rw [hQ]
          exact W.zret (v := (0 : Int32)) hx hb hr rfl (fun t ht hW => ⟨⟨(0 : Int32), o5.2, rfl, ⟨pr1 e9, pr2 e9⟩, ⟨by rw [ht]; exact hP, va_K.moved hW.alike hK, hD⟩⟩, hS.F ht⟩) hS.2.2 dX7_isToldName_34
        · have hf := it_f hf c6
          exact w29 o5.2 H locs ls hf hP hD hS (lv_sub hl [] rfl)
    · have hf := it_t hf c2
      refine lv_aload_n hx hb dX7_isToldName_7 rfl (lv_at hl 0 rfl) ?_
      refine lv_iconst (v := (1 : Int32)) hx hb dX7_isToldName_8 (by decide) ?_
      obtain ⟨o7, go7, hf⟩ := bd_s hf
      refine rk_Vi (wn := wRd K hRd aTp (hRo 99) o7.2 ++ wAB K aTp nTp fTp ++ wRo K hRo sRo) [wRd K hRd aTp (hRo 99) sRd, wAB K aTp nTp fTp, wRo K hRo sRo] [wRd K hRd aTp (hRo 99) sRd] [wRd K hRd aTp (hRo 99) o7.2] [wRd K hRd aTp (hRo 99) o7.2, wAB K aTp nTp fTp, wRo K hRo sRo] (As := [.int (1 : Int32)]) (rest := []) ⟨hx, hb, hml, hown, hts⟩ (c_X7_failWith l D K F hRd aTp (hRo 99) H.size sRd (1 : Int32) o7 go7) (cwV 1 hts (gcV_X7_failWith (mB12 _ (List.mem_of_getElem? (i := 5) rfl))) rfl rfl rfl hdV_X7_failWith ⟨Nat.le_of_ble_eq_true rfl, Nat.le_of_ble_eq_true rfl⟩) hK hP hD hS hA [0] (fl3 _ _ _) rfl (by decide) (fl1 _) (fl1 _) rfl rfl (fl3 _ _ _) (va_recv hK hP (ci := 6) (q0 := 0) rfl (rwl (rwl o_Rd))) rfl hl.1 rfl (Nat.le_of_ble_eq_true rfl) dX7_isToldName_9 ⟨Nat.zero_le _, Nat.zero_le _⟩ (fun H locs hP hD hS => ?_)
      have hP : va_P D vwCl (wRd K hRd aTp (hRo 99) o7.2 ++ wAB K aTp nTp fTp ++ wRo K hRo sRo) H := hP
      have hD : va_D A (wRd K hRd aTp (hRo 99) o7.2 ++ wAB K aTp nTp fTp ++ wRo K hRo sRo) := hD
      obtain ⟨g8, hf⟩ := gd_s hf
      have e9 := Option.some.inj hf
      rw [hQ]
      exact W.zret (v := o7.1) hx hb hr (bob_s g8) (fun t ht hW => ⟨⟨o7.1, o7.2, rfl, ⟨pr1 e9, pr2 e9⟩, ⟨by rw [ht]; exact hP, va_K.moved hW.alike hK, hD⟩⟩, hS.F ht⟩) hS.2.2 dX7_isToldName_12
  rw [hHe] at hgo
  exact hgo

theorem gcV_X7_isToldName {T0 : Cond} {own : String} {i : Nat} (h : Cond.methodLink own i yX7_isToldName ∈ wsL_law) : GoodIn (T0 :: wsL_law) (wsV own i RX7 yX7_isToldName wz_X7_isToldName) := gV h (mB14 _ (List.mem_of_getElem? (i := 11) rfl)) (mB14 _ (List.mem_of_getElem? (i := 12) rfl)) (mB1 _ (List.mem_of_getElem? (i := 22) rfl)) (mB14 _ (List.mem_of_getElem? (i := 13) rfl))
theorem hdV_X7_isToldName : yX7_isToldName.cls = RX7 ∧ yX7_isToldName.cls ≠ "java/lang/invoke/MethodHandle" ∧ yX7_isToldName.cls ≠ "java/lang/invoke/VarHandle" ∧ (parseMethodDescriptor yX7_isToldName.desc).map (fun d => d.parameters.length) = some 0 := by decide +kernel
theorem gcV_X9_addRoad {T0 : Cond} {own : String} {i : Nat} (h : Cond.methodLink own i yX9_addRoad ∈ wsL_law) : GoodIn (T0 :: wsL_law) (wsV own i RX9 yX9_addRoad wz_X9_addRoad) := gV h (mB14 _ (List.mem_of_getElem? (i := 23) rfl)) (mB15 _ (List.mem_of_getElem? (i := 0) rfl)) (mB1 _ (List.mem_of_getElem? (i := 17) rfl)) (mB15 _ (List.mem_of_getElem? (i := 1) rfl))
theorem hdV_X9_addRoad : yX9_addRoad.cls = RX9 ∧ yX9_addRoad.cls ≠ "java/lang/invoke/MethodHandle" ∧ yX9_addRoad.cls ≠ "java/lang/invoke/VarHandle" ∧ (parseMethodDescriptor yX9_addRoad.desc).map (fun d => d.parameters.length) = some 4 := by decide +kernel
def wz_X7_readRoadBetween : List Cond := .code yX7_readRoadBetween cX7_readRoadBetween 4 (some .boolean) :: wsL_law
abbrev r_X7_readRoadBetween : Room := { frames := 7, cells := 0, slots := 0, locals := 147 }
set_option maxHeartbeats 4000000 in
set_option maxRecDepth 100000 in
theorem c_X7_readRoadBetween (l : Launch) (D : va_G) (K : Nat → ClassId) (F : Nat) (adK adV : Nat → Nat) (tF : Nat) (hRd : Nat → Nat) (aTp nTp : Nat) (hRo : Nat → Nat) (sz : Nat) (sRd : MS) (fTp : (Nat → Int32)) (sRo : MS) (res : Int32 × MS × MS) (hf : f_X7_readRoadBetween F nTp fTp sRd sRo = some res) : Met l yX7_readRoadBetween wz_X7_readRoadBetween r_X7_readRoadBetween (va_Pc [.ref (hRd 99)] (PWz D K adK adV tF (wRd K hRd aTp (hRo 99) sRd ++ wAB K aTp nTp fTp ++ wRo K hRo sRo) sz)) (va_Qi (fun r u => r = res.1 ∧ u = res.2) (fun u t => BW D K (va_A (wRd K hRd aTp (hRo 99) sRd ++ wAB K aTp nTp fTp ++ wRo K hRo sRo) sz) (wRd K hRd aTp (hRo 99) u.1 ++ wAB K aTp nTp fTp ++ wRo K hRo u.2) t) (va_A (wRd K hRd aTp (hRo 99) sRd ++ wAB K aTp nTp fTp ++ wRo K hRo sRo) sz)) 0 0 (va_A (wRd K hRd aTp (hRo 99) sRd ++ wAB K aTp nTp fTp ++ wRo K hRo sRo) sz) := by
  refine Met.ofW (cc := cX7_readRoadBetween) (maxL := 4) (ret := (some .boolean)) (by decide) rfl ?_
  intro p e s m args below meth c s₁ B hml hv
  obtain ⟨hargs, ⟨hsz, hP, hK, hD0⟩, hZ⟩ := hv
  have hx := B.exec
  have hb := B.bytes
  have hr := B.returns
  have hts := atoms_spec (ws := wz_X7_readRoadBetween) B.pre
  have htl : ∀ w ∈ wsL_law, w.before args s = true := fun w h => hts w (List.mem_cons_of_mem _ h)
  have hown : s.vm.findClass RX7 = some m.cls := findClass_of_methodNamed B.named
  have hlocks := B.notSynchronized
  subst hsz
  have hD := hD0.self (sz := s.heap.size)
  generalize hAe : va_A (wRd K hRd aTp (hRo 99) sRd ++ wAB K aTp nTp fTp ++ wRo K hRo sRo) s.heap.size = A at hD hZ ⊢
  have hA : ∀ q : Nat, s.heap.size ≤ q → A q := fun q h => by rw [← hAe]; exact Or.inr h
  have hS : va_S A s.heap s.heap [] := va_S.rf
  have iX7 : ∀ w ∈ wsX70, w ∈ wz_X7_readRoadBetween := fun w h => List.mem_cons_of_mem _ (inlX7 w h)
  suffices hgo : ∀ Q : State → Prop, Q = MQ below (va_Qi (fun r u => r = res.1 ∧ u = res.2) (fun u t => BW D K A (wRd K hRd aTp (hRo 99) u.1 ++ wAB K aTp nTp fTp ++ wRo K hRo u.2) t) A) args s 0 0 A → W p l e (headSpec wz_X7_readRoadBetween r_X7_readRoadBetween).room s m args below meth c s.heap [] 0 0 Q (entryFrame m args 4) from hgo _ rfl
  intro Q hQ
  have w53 : ∀ (sRd : MS), ∀ (sRo : MS), ∀ (H : Heap) (locs : List Loc) (ls : Array Slot), f_X7_readRoadBetween_53 F nTp fTp sRd sRo = some res → va_P D vwCl (wRd K hRd aTp (hRo 99) sRd ++ wAB K aTp nTp fTp ++ wRo K hRo sRo) H → va_D A (wRd K hRd aTp (hRo 99) sRd ++ wAB K aTp nTp fTp ++ wRo K hRo sRo) → va_S A s.heap H locs → lv_has ls 4 [(0, .ref (hRd 99))] → W p l e (headSpec wz_X7_readRoadBetween r_X7_readRoadBetween).room s m args below meth c H locs 0 0 Q (F0 m 53 ls []) := by
    intro sRd sRo H locs ls hf hP hD hS hl
    unfold f_X7_readRoadBetween_53 at hf
    refine lv_aload_n hx hb dX7_readRoadBetween_53 rfl (lv_at hl 0 rfl) ?_
    refine lv_iconst (v := (3 : Int32)) hx hb dX7_readRoadBetween_54 (by decide) ?_
    obtain ⟨o22, go22, hf⟩ := bd_s hf
    refine rk_Vi (wn := wRd K hRd aTp (hRo 99) o22.2 ++ wAB K aTp nTp fTp ++ wRo K hRo sRo) [wRd K hRd aTp (hRo 99) sRd, wAB K aTp nTp fTp, wRo K hRo sRo] [wRd K hRd aTp (hRo 99) sRd] [wRd K hRd aTp (hRo 99) o22.2] [wRd K hRd aTp (hRo 99) o22.2, wAB K aTp nTp fTp, wRo K hRo sRo] (As := [.int (3 : Int32)]) (rest := []) ⟨hx, hb, hml, hown, hts⟩ (c_X7_failWith l D K F hRd aTp (hRo 99) H.size sRd (3 : Int32) o22 go22) (cwV 1 hts (gcV_X7_failWith (mB12 _ (List.mem_of_getElem? (i := 5) rfl))) rfl rfl rfl hdV_X7_failWith ⟨Nat.le_of_ble_eq_true rfl, Nat.le_of_ble_eq_true rfl⟩) hK hP hD hS hA [0] (fl3 _ _ _) rfl (by decide) (fl1 _) (fl1 _) rfl rfl (fl3 _ _ _) (va_recv hK hP (ci := 6) (q0 := 0) rfl (rwl (rwl o_Rd))) rfl hl.1 rfl (Nat.le_of_ble_eq_true rfl) dX7_readRoadBetween_55 ⟨Nat.zero_le _, Nat.zero_le _⟩ (fun H locs hP hD hS => ?_)
    have hP : va_P D vwCl (wRd K hRd aTp (hRo 99) o22.2 ++ wAB K aTp nTp fTp ++ wRo K hRo sRo) H := hP
    have hD : va_D A (wRd K hRd aTp (hRo 99) o22.2 ++ wAB K aTp nTp fTp ++ wRo K hRo sRo) := hD
    obtain ⟨g23, hf⟩ := gd_s hf
    have e9 := Option.some.inj hf
    rw [hQ]
    exact W.zret (v := o22.1) hx hb hr (bob_s g23) (fun t ht hW => ⟨⟨o22.1, (o22.2, sRo), rfl, ⟨pr1 e9, pr2 e9⟩, ⟨by rw [ht]; exact hP, va_K.moved hW.alike hK, hD⟩⟩, hS.F ht⟩) hS.2.2 dX7_readRoadBetween_58
  have hen : entryFrame m args 4 = entryFrame m (([.ref (hRd 99)] : List Value).toArray) 4 := by rw [hargs]
  have hl := lv_entry ([.ref (hRd 99)]) (n := 4) (Nat.le_of_ble_eq_true rfl)
  rw [hen, lg_entry_eq]
  generalize (lg_sl ([.ref (hRd 99)]) ++ List.replicate (4 - (lg_sl ([.ref (hRd 99)])).length) Slot.unset).toArray = ls at hl ⊢
  have hl : lv_has ls 4 [(0, .ref (hRd 99))] := hl
  unfold f_X7_readRoadBetween at hf
  obtain ⟨H, hHe⟩ : ∃ z, z = s.heap := ⟨_, rfl⟩
  obtain ⟨locs, hLe⟩ : ∃ z : List Loc, z = [] := ⟨_, rfl⟩
  rw [← hLe]
  have hS : va_S A s.heap H locs := by rw [hHe, hLe]; exact hS
  have hP : va_P D vwCl (wRd K hRd aTp (hRo 99) sRd ++ wAB K aTp nTp fTp ++ wRo K hRo sRo) H := by rw [hHe]; exact hP
  have hgo : W p l e (headSpec wz_X7_readRoadBetween r_X7_readRoadBetween).room s m args below meth c H locs 0 0 Q (F0 m 0 ls []) := by
    refine lv_aload_n hx hb dX7_readRoadBetween_0 rfl (lv_at hl 0 rfl) ?_
    obtain ⟨o1, go1, hf⟩ := bd_s hf
    refine rk_Vv (wn := wRd K hRd aTp (hRo 99) o1 ++ wAB K aTp nTp fTp ++ wRo K hRo sRo) [wRd K hRd aTp (hRo 99) sRd, wAB K aTp nTp fTp, wRo K hRo sRo] [wRd K hRd aTp (hRo 99) sRd, wAB K aTp nTp fTp] [wRd K hRd aTp (hRo 99) o1, wAB K aTp nTp fTp] [wRd K hRd aTp (hRo 99) o1, wAB K aTp nTp fTp, wRo K hRo sRo] (As := []) (rest := []) ⟨hx, hb, hml, hown, hts⟩ (c_X7_lookOn l D K F hRd (hRo 99) aTp nTp H.size sRd fTp o1 go1) (cwV 0 hts (gcV_X7_lookOn (mB9 _ (List.mem_of_getElem? (i := 2) rfl))) rfl rfl rfl hdV_X7_lookOn ⟨Nat.le_of_ble_eq_true rfl, Nat.le_of_ble_eq_true rfl⟩) hK hP hD hS hA [0, 1] (fl3 _ _ _) rfl (by decide) (fl2 _ _) (fl2 _ _) rfl rfl (fl3 _ _ _) (va_recv hK hP (ci := 6) (q0 := 0) rfl (rwl (rwl o_Rd))) rfl hl.1 rfl (Nat.le_of_ble_eq_true rfl) dX7_readRoadBetween_1 ⟨Nat.zero_le _, Nat.zero_le _⟩ (fun H locs hP hD hS => ?_)
    have hP : va_P D vwCl (wRd K hRd aTp (hRo 99) o1 ++ wAB K aTp nTp fTp ++ wRo K hRo sRo) H := hP
    have hD : va_D A (wRd K hRd aTp (hRo 99) o1 ++ wAB K aTp nTp fTp ++ wRo K hRo sRo) := hD
    refine lv_aload_n hx hb dX7_readRoadBetween_4 rfl (lv_at hl 0 rfl) ?_
    obtain ⟨o2, go2, hf⟩ := bd_s hf
    refine rs_Viz (As := []) (rest := []) ⟨hx, hb, hml, hown, hts⟩ (c_X7_isToldName l D K F adK adV tF hRd aTp nTp hRo H.size o1 fTp sRo o2 go2) (cwV 0 hts (gcV_X7_isToldName (mB14 _ (List.mem_of_getElem? (i := 10) rfl))) rfl rfl rfl hdV_X7_isToldName ⟨Nat.le_of_ble_eq_true rfl, Nat.le_of_ble_eq_true rfl⟩) hK hP hD hS hA hZ (va_recv hK hP (ci := 6) (q0 := 0) rfl (rwl (rwl o_Rd))) rfl hl.1 rfl (Nat.le_of_ble_eq_true rfl) dX7_readRoadBetween_5 ⟨Nat.zero_le _, Nat.zero_le _⟩ (fun H locs hP hD hS => ?_)
    have hP : va_P D vwCl (wRd K hRd aTp (hRo 99) o2.2 ++ wAB K aTp nTp fTp ++ wRo K hRo sRo) H := hP
    have hD : va_D A (wRd K hRd aTp (hRo 99) o2.2 ++ wAB K aTp nTp fTp ++ wRo K hRo sRo) := hD
    refine lv_if_ne (tgt := 13) hx hb dX7_readRoadBetween_8 (by decide) (fun c3 => ?_) (fun c3 => ?_)
    · have hf := it_f hf c3
      refine lv_aload_n hx hb dX7_readRoadBetween_13 rfl (lv_at hl 0 rfl) ?_
      obtain ⟨o4, go4, hf⟩ := bd_s hf
      refine ro_Vi (As := []) (rest := []) ⟨hx, hb, hml, hown, hts⟩ (c_X7_placeNamed l D K F hRd aTp nTp hRo o2.2 fTp sRo o4 go4) (cwV 0 hts (gcV_X7_placeNamed (mB13 _ (List.mem_of_getElem? (i := 22) rfl))) rfl rfl rfl hdV_X7_placeNamed ⟨Nat.le_of_ble_eq_true rfl, Nat.le_of_ble_eq_true rfl⟩) hK hP hS hP (va_recv hK hP (ci := 6) (q0 := 0) rfl (rwl (rwl o_Rd))) rfl hl.1 rfl (Nat.le_of_ble_eq_true rfl) dX7_readRoadBetween_14 ⟨Nat.zero_le _, Nat.zero_le _⟩ (fun H locs hP hS => ?_)
      refine lv_istore_n (lv' := [(1, .int o4), (0, .ref (hRd 99))]) hx hb dX7_readRoadBetween_17 rfl hl (by decide) rfl (fun ls hl => ?_)
      refine lv_aload_n hx hb dX7_readRoadBetween_18 rfl (lv_at hl 1 rfl) ?_
      obtain ⟨o5, go5, hf⟩ := bd_s hf
      refine rk_Vv (wn := wRd K hRd aTp (hRo 99) o5 ++ wAB K aTp nTp fTp ++ wRo K hRo sRo) [wRd K hRd aTp (hRo 99) o2.2, wAB K aTp nTp fTp, wRo K hRo sRo] [wRd K hRd aTp (hRo 99) o2.2, wAB K aTp nTp fTp] [wRd K hRd aTp (hRo 99) o5, wAB K aTp nTp fTp] [wRd K hRd aTp (hRo 99) o5, wAB K aTp nTp fTp, wRo K hRo sRo] (As := []) (rest := []) ⟨hx, hb, hml, hown, hts⟩ (c_X7_lookOn l D K F hRd (hRo 99) aTp nTp H.size o2.2 fTp o5 go5) (cwV 0 hts (gcV_X7_lookOn (mB9 _ (List.mem_of_getElem? (i := 2) rfl))) rfl rfl rfl hdV_X7_lookOn ⟨Nat.le_of_ble_eq_true rfl, Nat.le_of_ble_eq_true rfl⟩) hK hP hD hS hA [0, 1] (fl3 _ _ _) rfl (by decide) (fl2 _ _) (fl2 _ _) rfl rfl (fl3 _ _ _) (va_recv hK hP (ci := 6) (q0 := 0) rfl (rwl (rwl o_Rd))) rfl hl.1 rfl (Nat.le_of_ble_eq_true rfl) dX7_readRoadBetween_19 ⟨Nat.zero_le _, Nat.zero_le _⟩ (fun H locs hP hD hS => ?_)
      have hP : va_P D vwCl (wRd K hRd aTp (hRo 99) o5 ++ wAB K aTp nTp fTp ++ wRo K hRo sRo) H := hP
      have hD : va_D A (wRd K hRd aTp (hRo 99) o5 ++ wAB K aTp nTp fTp ++ wRo K hRo sRo) := hD
      refine lv_aload_n hx hb dX7_readRoadBetween_22 rfl (lv_at hl 1 rfl) ?_
      obtain ⟨o6, go6, hf⟩ := bd_s hf
      refine rs_Viz (As := []) (rest := []) ⟨hx, hb, hml, hown, hts⟩ (c_X7_isToldName l D K F adK adV tF hRd aTp nTp hRo H.size o5 fTp sRo o6 go6) (cwV 0 hts (gcV_X7_isToldName (mB14 _ (List.mem_of_getElem? (i := 10) rfl))) rfl rfl rfl hdV_X7_isToldName ⟨Nat.le_of_ble_eq_true rfl, Nat.le_of_ble_eq_true rfl⟩) hK hP hD hS hA hZ (va_recv hK hP (ci := 6) (q0 := 0) rfl (rwl (rwl o_Rd))) rfl hl.1 rfl (Nat.le_of_ble_eq_true rfl) dX7_readRoadBetween_23 ⟨Nat.zero_le _, Nat.zero_le _⟩ (fun H locs hP hD hS => ?_)
      have hP : va_P D vwCl (wRd K hRd aTp (hRo 99) o6.2 ++ wAB K aTp nTp fTp ++ wRo K hRo sRo) H := hP
      have hD : va_D A (wRd K hRd aTp (hRo 99) o6.2 ++ wAB K aTp nTp fTp ++ wRo K hRo sRo) := hD
      refine lv_if_ne (tgt := 31) hx hb dX7_readRoadBetween_26 (by decide) (fun c7 => ?_) (fun c7 => ?_)
      · have hf := it_f hf c7
        refine lv_aload_n hx hb dX7_readRoadBetween_31 rfl (lv_at hl 1 rfl) ?_
        obtain ⟨o8, go8, hf⟩ := bd_s hf
        refine ro_Vi (As := []) (rest := []) ⟨hx, hb, hml, hown, hts⟩ (c_X7_placeNamed l D K F hRd aTp nTp hRo o6.2 fTp sRo o8 go8) (cwV 0 hts (gcV_X7_placeNamed (mB13 _ (List.mem_of_getElem? (i := 22) rfl))) rfl rfl rfl hdV_X7_placeNamed ⟨Nat.le_of_ble_eq_true rfl, Nat.le_of_ble_eq_true rfl⟩) hK hP hS hP (va_recv hK hP (ci := 6) (q0 := 0) rfl (rwl (rwl o_Rd))) rfl hl.1 rfl (Nat.le_of_ble_eq_true rfl) dX7_readRoadBetween_32 ⟨Nat.zero_le _, Nat.zero_le _⟩ (fun H locs hP hS => ?_)
        refine lv_istore_n (lv' := [(2, .int o8), (1, .int o4), (0, .ref (hRd 99))]) hx hb dX7_readRoadBetween_35 rfl hl (by decide) rfl (fun ls hl => ?_)
        refine lv_iload_n hx hb dX7_readRoadBetween_36 rfl (lv_at hl 1 rfl) ?_
        refine lv_iload_n hx hb dX7_readRoadBetween_37 rfl (lv_at hl 0 rfl) ?_
        refine lv_icmp_eq (tgt := 53) hx hb dX7_readRoadBetween_38 (by decide) (fun c9 => ?_) (fun c9 => ?_)
        · have hf := it_t hf c9
          exact w53 o6.2 sRo H locs ls hf hP hD hS (lv_sub hl [2] rfl)
        · have hf := it_f hf c9
          refine lv_aload_n hx hb dX7_readRoadBetween_41 rfl (lv_at hl 2 rfl) ?_
          refine va_get (D := D) (ci := 6) (v := .ref (hRo 99)) (C := RX7) (T := TX7) (N := 11) hx hb hts iX7 hown hK hP 0 (rwl (rwl o_Rd)) rfl 4 (by decide) (htl _ (mB3 _ (List.mem_of_getElem? (i := 18) rfl))) (fun _ h9 => h9) rfl dX7_readRoadBetween_42 ?_
          refine lv_iload_n hx hb dX7_readRoadBetween_45 rfl (lv_at hl 1 rfl) ?_
          refine lv_iload_n hx hb dX7_readRoadBetween_46 rfl (lv_at hl 0 rfl) ?_
          obtain ⟨o10, go10, hf⟩ := bd_s hf
          refine ro_Vi (As := [.int o4, .int o8]) (rest := []) ⟨hx, hb, hml, hown, hts⟩ (c_X9_isRoad l D K F hRo sRo o4 o8 o10 go10) (cwV 2 hts (gcV_X9_isRoad (mB14 _ (List.mem_of_getElem? (i := 14) rfl))) rfl rfl rfl hdV_X9_isRoad ⟨Nat.le_of_ble_eq_true rfl, Nat.le_of_ble_eq_true rfl⟩) hK hP hS (va_PL (cs := [wRd K hRd aTp (hRo 99) o6.2, wAB K aTp nTp fTp, wRo K hRo sRo]) (cc := [wRo K hRo sRo]) hP (fl3 _ _ _) [2] rfl (fl1 _)) (va_recv hK hP (ci := 8) (q0 := ((3 + 1) + 0)) rfl (rwr (lnA ln_Rd ln_AB) o_Ro)) rfl hl.1 rfl (Nat.le_of_ble_eq_true rfl) dX7_readRoadBetween_47 ⟨Nat.zero_le _, Nat.zero_le _⟩ (fun H locs hP hS => ?_)
          refine lv_if_eq (tgt := 59) hx hb dX7_readRoadBetween_50 (by decide) (fun c11 => ?_) (fun c11 => ?_)
          · have hf := it_t hf c11
            refine lv_aload_n hx hb dX7_readRoadBetween_59 rfl (lv_at hl 2 rfl) ?_
            obtain ⟨o12, go12, hf⟩ := bd_s hf
            refine rk_Vv (wn := wRd K hRd aTp (hRo 99) o12 ++ wAB K aTp nTp fTp ++ wRo K hRo sRo) [wRd K hRd aTp (hRo 99) o6.2, wAB K aTp nTp fTp, wRo K hRo sRo] [wRd K hRd aTp (hRo 99) o6.2, wAB K aTp nTp fTp] [wRd K hRd aTp (hRo 99) o12, wAB K aTp nTp fTp] [wRd K hRd aTp (hRo 99) o12, wAB K aTp nTp fTp, wRo K hRo sRo] (As := []) (rest := []) ⟨hx, hb, hml, hown, hts⟩ (c_X7_lookOn l D K F hRd (hRo 99) aTp nTp H.size o6.2 fTp o12 go12) (cwV 0 hts (gcV_X7_lookOn (mB9 _ (List.mem_of_getElem? (i := 2) rfl))) rfl rfl rfl hdV_X7_lookOn ⟨Nat.le_of_ble_eq_true rfl, Nat.le_of_ble_eq_true rfl⟩) hK hP hD hS hA [0, 1] (fl3 _ _ _) rfl (by decide) (fl2 _ _) (fl2 _ _) rfl rfl (fl3 _ _ _) (va_recv hK hP (ci := 6) (q0 := 0) rfl (rwl (rwl o_Rd))) rfl hl.1 rfl (Nat.le_of_ble_eq_true rfl) dX7_readRoadBetween_60 ⟨Nat.zero_le _, Nat.zero_le _⟩ (fun H locs hP hD hS => ?_)
            have hP : va_P D vwCl (wRd K hRd aTp (hRo 99) o12 ++ wAB K aTp nTp fTp ++ wRo K hRo sRo) H := hP
            have hD : va_D A (wRd K hRd aTp (hRo 99) o12 ++ wAB K aTp nTp fTp ++ wRo K hRo sRo) := hD
            refine lv_aload_n hx hb dX7_readRoadBetween_63 rfl (lv_at hl 2 rfl) ?_
            refine va_ldcS (own := RX7) (index := 157) (tx := "takes") (q := adK 10) hx hb hown (hZ.2.2.2 (RX7, 157, "takes", 10) (List.mem_of_getElem? (i := 25) rfl)) dX7_readRoadBetween_64 ?_
            obtain ⟨o13, go13, hf⟩ := bd_s hf
            refine rk_Viz (wn := wRd K hRd aTp (hRo 99) o13.2 ++ wAB K aTp nTp fTp ++ wRo K hRo sRo) [wRd K hRd aTp (hRo 99) o12, wAB K aTp nTp fTp, wRo K hRo sRo] [wRd K hRd aTp (hRo 99) o12, wAB K aTp nTp fTp] [wRd K hRd aTp (hRo 99) o13.2, wAB K aTp nTp fTp] [wRd K hRd aTp (hRo 99) o13.2, wAB K aTp nTp fTp, wRo K hRo sRo] (As := [.ref (adK 10)]) (rest := []) ⟨hx, hb, hml, hown, hts⟩ (c_X7_passWord l D K F adK adV tF hRd (hRo 99) aTp nTp H.size o12 fTp 10 o13 go13) (cwV 1 hts (gcV_X7_passWord (mB12 _ (List.mem_of_getElem? (i := 22) rfl))) rfl rfl rfl hdV_X7_passWord ⟨Nat.le_of_ble_eq_true rfl, Nat.le_of_ble_eq_true rfl⟩) hK hP hD hS hA hZ [0, 1] (fl3 _ _ _) rfl (by decide) (fl2 _ _) (fl2 _ _) rfl rfl (fl3 _ _ _) (va_recv hK hP (ci := 6) (q0 := 0) rfl (rwl (rwl o_Rd))) rfl hl.1 rfl (Nat.le_of_ble_eq_true rfl) dX7_readRoadBetween_66 ⟨Nat.zero_le _, Nat.zero_le _⟩ (fun H locs hP hD hS => ?_)
            have hP : va_P D vwCl (wRd K hRd aTp (hRo 99) o13.2 ++ wAB K aTp nTp fTp ++ wRo K hRo sRo) H := hP
            have hD : va_D A (wRd K hRd aTp (hRo 99) o13.2 ++ wAB K aTp nTp fTp ++ wRo K hRo sRo) := hD
            refine lv_if_eq (tgt := 82) hx hb dX7_readRoadBetween_69 (by decide) (fun c14 => ?_) (fun c14 => ?_)
            · have hf := it_t hf c14
              refine lv_iconst (v := (0 : Int32)) hx hb dX7_readRoadBetween_82 (by decide) ?_
              have e9 := Option.some.inj hf
              rw [hQ]
              exact W.zret (v := (0 : Int32)) hx hb hr rfl (fun t ht hW => ⟨⟨(0 : Int32), (o13.2, sRo), rfl, ⟨pr1 e9, pr2 e9⟩, ⟨by rw [ht]; exact hP, va_K.moved hW.alike hK, hD⟩⟩, hS.F ht⟩) hS.2.2 dX7_readRoadBetween_83
            · have hf := it_f hf c14
              refine lv_aload_n hx hb dX7_readRoadBetween_72 rfl (lv_at hl 2 rfl) ?_
              refine lv_iconst (v := (1 : Int32)) hx hb dX7_readRoadBetween_73 (by decide) ?_
              refine lv_bipush (v := (40 : Int32)) hx hb dX7_readRoadBetween_74 (by decide) ?_
              obtain ⟨o15, go15, hf⟩ := bd_s hf
              refine rk_Vi (wn := wRd K hRd aTp (hRo 99) o15.2 ++ wAB K aTp nTp fTp ++ wRo K hRo sRo) [wRd K hRd aTp (hRo 99) o13.2, wAB K aTp nTp fTp, wRo K hRo sRo] [wRd K hRd aTp (hRo 99) o13.2, wAB K aTp nTp fTp] [wRd K hRd aTp (hRo 99) o15.2, wAB K aTp nTp fTp] [wRd K hRd aTp (hRo 99) o15.2, wAB K aTp nTp fTp, wRo K hRo sRo] (As := [.int (1 : Int32), .int (40 : Int32)]) (rest := []) ⟨hx, hb, hml, hown, hts⟩ (c_X7_passWhole l D K F hRd (hRo 99) aTp nTp H.size o13.2 fTp (1 : Int32) (40 : Int32) o15 go15) (cwV 2 hts (gcV_X7_passWhole (mB13 _ (List.mem_of_getElem? (i := 2) rfl))) rfl rfl rfl hdV_X7_passWhole ⟨Nat.le_of_ble_eq_true rfl, Nat.le_of_ble_eq_true rfl⟩) hK hP hD hS hA [0, 1] (fl3 _ _ _) rfl (by decide) (fl2 _ _) (fl2 _ _) rfl rfl (fl3 _ _ _) (va_recv hK hP (ci := 6) (q0 := 0) rfl (rwl (rwl o_Rd))) rfl hl.1 rfl (Nat.le_of_ble_eq_true rfl) dX7_readRoadBetween_76 ⟨Nat.zero_le _, Nat.zero_le _⟩ (fun H locs hP hD hS => ?_)
              have hP : va_P D vwCl (wRd K hRd aTp (hRo 99) o15.2 ++ wAB K aTp nTp fTp ++ wRo K hRo sRo) H := hP
              have hD : va_D A (wRd K hRd aTp (hRo 99) o15.2 ++ wAB K aTp nTp fTp ++ wRo K hRo sRo) := hD
              refine lv_if_ne (tgt := 84) hx hb dX7_readRoadBetween_79 (by decide) (fun c16 => ?_) (fun c16 => ?_)
              · have hf := it_f hf c16
                refine lv_aload_n hx hb dX7_readRoadBetween_84 rfl (lv_at hl 2 rfl) ?_
                refine va_get (D := D) (ci := 6) (v := .int (o15.2.1 8)) (C := RX7) (T := TX7) (N := 11) hx hb hts iX7 hown hK hP 0 (rwl (rwl o_Rd)) rfl 8 (by decide) (htl _ (mB12 _ (List.mem_of_getElem? (i := 17) rfl))) (fun _ h9 => h9) rfl dX7_readRoadBetween_85 ?_
                refine lv_istore_n (lv' := [(3, .int (o15.2.1 8)), (2, .int o8), (1, .int o4), (0, .ref (hRd 99))]) hx hb dX7_readRoadBetween_88 rfl hl (by decide) rfl (fun ls hl => ?_)
                refine lv_aload_n hx hb dX7_readRoadBetween_89 rfl (lv_at hl 3 rfl) ?_
                refine va_ldcS (own := RX7) (index := 159) (tx := "minutes") (q := adK 11) hx hb hown (hZ.2.2.2 (RX7, 159, "minutes", 11) (List.mem_of_getElem? (i := 26) rfl)) dX7_readRoadBetween_90 ?_
                obtain ⟨o17, go17, hf⟩ := bd_s hf
                refine rk_Viz (wn := wRd K hRd aTp (hRo 99) o17.2 ++ wAB K aTp nTp fTp ++ wRo K hRo sRo) [wRd K hRd aTp (hRo 99) o15.2, wAB K aTp nTp fTp, wRo K hRo sRo] [wRd K hRd aTp (hRo 99) o15.2, wAB K aTp nTp fTp] [wRd K hRd aTp (hRo 99) o17.2, wAB K aTp nTp fTp] [wRd K hRd aTp (hRo 99) o17.2, wAB K aTp nTp fTp, wRo K hRo sRo] (As := [.ref (adK 11)]) (rest := []) ⟨hx, hb, hml, hown, hts⟩ (c_X7_passWord l D K F adK adV tF hRd (hRo 99) aTp nTp H.size o15.2 fTp 11 o17 go17) (cwV 1 hts (gcV_X7_passWord (mB12 _ (List.mem_of_getElem? (i := 22) rfl))) rfl rfl rfl hdV_X7_passWord ⟨Nat.le_of_ble_eq_true rfl, Nat.le_of_ble_eq_true rfl⟩) hK hP hD hS hA hZ [0, 1] (fl3 _ _ _) rfl (by decide) (fl2 _ _) (fl2 _ _) rfl rfl (fl3 _ _ _) (va_recv hK hP (ci := 6) (q0 := 0) rfl (rwl (rwl o_Rd))) rfl hl.1 rfl (Nat.le_of_ble_eq_true rfl) dX7_readRoadBetween_92 ⟨Nat.zero_le _, Nat.zero_le _⟩ (fun H locs hP hD hS => ?_)
                have hP : va_P D vwCl (wRd K hRd aTp (hRo 99) o17.2 ++ wAB K aTp nTp fTp ++ wRo K hRo sRo) H := hP
                have hD : va_D A (wRd K hRd aTp (hRo 99) o17.2 ++ wAB K aTp nTp fTp ++ wRo K hRo sRo) := hD
                refine lv_if_eq (tgt := 108) hx hb dX7_readRoadBetween_95 (by decide) (fun c18 => ?_) (fun c18 => ?_)
                · have hf := it_t hf c18
                  refine lv_iconst (v := (0 : Int32)) hx hb dX7_readRoadBetween_108 (by decide) ?_
                  have e9 := Option.some.inj hf
                  rw [hQ]
                  exact W.zret (v := (0 : Int32)) hx hb hr rfl (fun t ht hW => ⟨⟨(0 : Int32), (o17.2, sRo), rfl, ⟨pr1 e9, pr2 e9⟩, ⟨by rw [ht]; exact hP, va_K.moved hW.alike hK, hD⟩⟩, hS.F ht⟩) hS.2.2 dX7_readRoadBetween_109
                · have hf := it_f hf c18
                  refine lv_aload_n hx hb dX7_readRoadBetween_98 rfl (lv_at hl 3 rfl) ?_
                  refine lv_iconst (v := (0 : Int32)) hx hb dX7_readRoadBetween_99 (by decide) ?_
                  refine lv_bipush (v := (99 : Int32)) hx hb dX7_readRoadBetween_100 (by decide) ?_
                  obtain ⟨o19, go19, hf⟩ := bd_s hf
                  refine rk_Vi (wn := wRd K hRd aTp (hRo 99) o19.2 ++ wAB K aTp nTp fTp ++ wRo K hRo sRo) [wRd K hRd aTp (hRo 99) o17.2, wAB K aTp nTp fTp, wRo K hRo sRo] [wRd K hRd aTp (hRo 99) o17.2, wAB K aTp nTp fTp] [wRd K hRd aTp (hRo 99) o19.2, wAB K aTp nTp fTp] [wRd K hRd aTp (hRo 99) o19.2, wAB K aTp nTp fTp, wRo K hRo sRo] (As := [.int (0 : Int32), .int (99 : Int32)]) (rest := []) ⟨hx, hb, hml, hown, hts⟩ (c_X7_passWhole l D K F hRd (hRo 99) aTp nTp H.size o17.2 fTp (0 : Int32) (99 : Int32) o19 go19) (cwV 2 hts (gcV_X7_passWhole (mB13 _ (List.mem_of_getElem? (i := 2) rfl))) rfl rfl rfl hdV_X7_passWhole ⟨Nat.le_of_ble_eq_true rfl, Nat.le_of_ble_eq_true rfl⟩) hK hP hD hS hA [0, 1] (fl3 _ _ _) rfl (by decide) (fl2 _ _) (fl2 _ _) rfl rfl (fl3 _ _ _) (va_recv hK hP (ci := 6) (q0 := 0) rfl (rwl (rwl o_Rd))) rfl hl.1 rfl (Nat.le_of_ble_eq_true rfl) dX7_readRoadBetween_102 ⟨Nat.zero_le _, Nat.zero_le _⟩ (fun H locs hP hD hS => ?_)
                  have hP : va_P D vwCl (wRd K hRd aTp (hRo 99) o19.2 ++ wAB K aTp nTp fTp ++ wRo K hRo sRo) H := hP
                  have hD : va_D A (wRd K hRd aTp (hRo 99) o19.2 ++ wAB K aTp nTp fTp ++ wRo K hRo sRo) := hD
                  refine lv_if_ne (tgt := 110) hx hb dX7_readRoadBetween_105 (by decide) (fun c20 => ?_) (fun c20 => ?_)
                  · have hf := it_f hf c20
                    refine lv_aload_n hx hb dX7_readRoadBetween_110 rfl (lv_at hl 3 rfl) ?_
                    refine va_get (D := D) (ci := 6) (v := .ref (hRo 99)) (C := RX7) (T := TX7) (N := 11) hx hb hts iX7 hown hK hP 0 (rwl (rwl o_Rd)) rfl 4 (by decide) (htl _ (mB3 _ (List.mem_of_getElem? (i := 18) rfl))) (fun _ h9 => h9) rfl dX7_readRoadBetween_111 ?_
                    refine lv_iload_n hx hb dX7_readRoadBetween_114 rfl (lv_at hl 2 rfl) ?_
                    refine lv_iload_n hx hb dX7_readRoadBetween_115 rfl (lv_at hl 1 rfl) ?_
                    refine lv_iload_n hx hb dX7_readRoadBetween_116 rfl (lv_at hl 0 rfl) ?_
                    refine lv_aload_n hx hb dX7_readRoadBetween_117 rfl (lv_at hl 3 rfl) ?_
                    refine va_get (D := D) (ci := 6) (v := .int (o19.2.1 8)) (C := RX7) (T := TX7) (N := 11) hx hb hts iX7 hown hK hP 0 (rwl (rwl o_Rd)) rfl 8 (by decide) (htl _ (mB12 _ (List.mem_of_getElem? (i := 17) rfl))) (fun _ h9 => h9) rfl dX7_readRoadBetween_118 ?_
                    obtain ⟨o21, go21, hf⟩ := bd_s hf
                    refine rk_Vv (wn := wRd K hRd aTp (hRo 99) o19.2 ++ wAB K aTp nTp fTp ++ wRo K hRo o21) [wRd K hRd aTp (hRo 99) o19.2, wAB K aTp nTp fTp, wRo K hRo sRo] [wRo K hRo sRo] [wRo K hRo o21] [wRd K hRd aTp (hRo 99) o19.2, wAB K aTp nTp fTp, wRo K hRo o21] (As := [.int o4, .int o8, .int (o15.2.1 8), .int (o19.2.1 8)]) (rest := []) ⟨hx, hb, hml, hown, hts⟩ (c_X9_addRoad l D K F hRo H.size sRo o4 o8 (o15.2.1 8) (o19.2.1 8) o21 go21) (cwV 4 hts (gcV_X9_addRoad (mB14 _ (List.mem_of_getElem? (i := 22) rfl))) rfl rfl rfl hdV_X9_addRoad ⟨Nat.le_of_ble_eq_true rfl, Nat.le_of_ble_eq_true rfl⟩) hK hP hD hS hA [2] (fl3 _ _ _) rfl (by decide) (fl1 _) (fl1 _) rfl rfl (fl3 _ _ _) (va_recv hK hP (ci := 8) (q0 := ((3 + 1) + 0)) rfl (rwr (lnA ln_Rd ln_AB) o_Ro)) rfl hl.1 rfl (Nat.le_of_ble_eq_true rfl) dX7_readRoadBetween_121 ⟨Nat.zero_le _, Nat.zero_le _⟩ (fun H locs hP hD hS => ?_)
                    have hP : va_P D vwCl (wRd K hRd aTp (hRo 99) o19.2 ++ wAB K aTp nTp fTp ++ wRo K hRo o21) H := hP
                    have hD : va_D A (wRd K hRd aTp (hRo 99) o19.2 ++ wAB K aTp nTp fTp ++ wRo K hRo o21) := hD
                    refine lv_iconst (v := (1 : Int32)) hx hb dX7_readRoadBetween_124 (by decide) ?_
                    have e9 := Option.some.inj hf
                    rw [hQ]
                    exact W.zret (v := (1 : Int32)) hx hb hr rfl (fun t ht hW => ⟨⟨(1 : Int32), (o19.2, o21), rfl, ⟨pr1 e9, pr2 e9⟩, ⟨by rw [ht]; exact hP, va_K.moved hW.alike hK, hD⟩⟩, hS.F ht⟩) hS.2.2 dX7_readRoadBetween_125
                  · have hf := it_t hf c20
                    refine lv_iconst (v := (0 : Int32)) hx hb dX7_readRoadBetween_108 (by decide) ?_
                    have e9 := Option.some.inj hf
                    rw [hQ]
                    exact W.zret (v := (0 : Int32)) hx hb hr rfl (fun t ht hW => ⟨⟨(0 : Int32), (o19.2, sRo), rfl, ⟨pr1 e9, pr2 e9⟩, ⟨by rw [ht]; exact hP, va_K.moved hW.alike hK, hD⟩⟩, hS.F ht⟩) hS.2.2 dX7_readRoadBetween_109
              · have hf := it_t hf c16
                refine lv_iconst (v := (0 : Int32)) hx hb dX7_readRoadBetween_82 (by decide) ?_
                have e9 := Option.some.inj hf
                rw [hQ]
                exact W.zret (v := (0 : Int32)) hx hb hr rfl (fun t ht hW => ⟨⟨(0 : Int32), (o15.2, sRo), rfl, ⟨pr1 e9, pr2 e9⟩, ⟨by rw [ht]; exact hP, va_K.moved hW.alike hK, hD⟩⟩, hS.F ht⟩) hS.2.2 dX7_readRoadBetween_83
          · have hf := it_f hf c11
            exact w53 o6.2 sRo H locs ls hf hP hD hS (lv_sub hl [2] rfl)
      · have hf := it_t hf c7
        refine lv_iconst (v := (0 : Int32)) hx hb dX7_readRoadBetween_29 (by decide) ?_
        have e9 := Option.some.inj hf
        rw [hQ]
        exact W.zret (v := (0 : Int32)) hx hb hr rfl (fun t ht hW => ⟨⟨(0 : Int32), (o6.2, sRo), rfl, ⟨pr1 e9, pr2 e9⟩, ⟨by rw [ht]; exact hP, va_K.moved hW.alike hK, hD⟩⟩, hS.F ht⟩) hS.2.2 dX7_readRoadBetween_30
    · have hf := it_t hf c3
      refine lv_iconst (v := (0 : Int32)) hx hb dX7_readRoadBetween_11 (by decide) ?_
      have e9 := Option.some.inj hf
      rw [hQ]
      exact W.zret (v := (0 : Int32)) hx hb hr rfl (fun t ht hW => ⟨⟨(0 : Int32), (o2.2, sRo), rfl, ⟨pr1 e9, pr2 e9⟩, ⟨by rw [ht]; exact hP, va_K.moved hW.alike hK, hD⟩⟩, hS.F ht⟩) hS.2.2 dX7_readRoadBetween_12
  rw [hHe] at hgo
  exact hgo

def wz_X7_readPump : List Cond := .code yX7_readPump cX7_readPump 3 (some .boolean) :: wsL_law
abbrev r_X7_readPump : Room := { frames := 7, cells := 0, slots := 0, locals := 147 }
set_option maxHeartbeats 4000000 in
set_option maxRecDepth 100000 in
theorem c_X7_readPump (l : Launch) (D : va_G) (K : Nat → ClassId) (F : Nat) (adK adV : Nat → Nat) (tF : Nat) (hRd : Nat → Nat) (aTp nTp : Nat) (hRo : Nat → Nat) (sz : Nat) (sRd : MS) (fTp : (Nat → Int32)) (sRo : MS) (res : Int32 × MS × MS) (hf : f_X7_readPump F nTp fTp sRd sRo = some res) : Met l yX7_readPump wz_X7_readPump r_X7_readPump (va_Pc [.ref (hRd 99)] (PWz D K adK adV tF (wRd K hRd aTp (hRo 99) sRd ++ wAB K aTp nTp fTp ++ wRo K hRo sRo) sz)) (va_Qi (fun r u => r = res.1 ∧ u = res.2) (fun u t => BW D K (va_A (wRd K hRd aTp (hRo 99) sRd ++ wAB K aTp nTp fTp ++ wRo K hRo sRo) sz) (wRd K hRd aTp (hRo 99) u.1 ++ wAB K aTp nTp fTp ++ wRo K hRo u.2) t) (va_A (wRd K hRd aTp (hRo 99) sRd ++ wAB K aTp nTp fTp ++ wRo K hRo sRo) sz)) 0 0 (va_A (wRd K hRd aTp (hRo 99) sRd ++ wAB K aTp nTp fTp ++ wRo K hRo sRo) sz) := by
  refine Met.ofW (cc := cX7_readPump) (maxL := 3) (ret := (some .boolean)) (by decide) rfl ?_
  intro p e s m args below meth c s₁ B hml hv
  obtain ⟨hargs, ⟨hsz, hP, hK, hD0⟩, hZ⟩ := hv
  have hx := B.exec
  have hb := B.bytes
  have hr := B.returns
  have hts := atoms_spec (ws := wz_X7_readPump) B.pre
  have htl : ∀ w ∈ wsL_law, w.before args s = true := fun w h => hts w (List.mem_cons_of_mem _ h)
  have hown : s.vm.findClass RX7 = some m.cls := findClass_of_methodNamed B.named
  have hlocks := B.notSynchronized
  subst hsz
  have hD := hD0.self (sz := s.heap.size)
  generalize hAe : va_A (wRd K hRd aTp (hRo 99) sRd ++ wAB K aTp nTp fTp ++ wRo K hRo sRo) s.heap.size = A at hD hZ ⊢
  have hA : ∀ q : Nat, s.heap.size ≤ q → A q := fun q h => by rw [← hAe]; exact Or.inr h
  have hS : va_S A s.heap s.heap [] := va_S.rf
  have iX7 : ∀ w ∈ wsX70, w ∈ wz_X7_readPump := fun w h => List.mem_cons_of_mem _ (inlX7 w h)
  have iX9 : ∀ w ∈ wsX90, w ∈ wz_X7_readPump := fun w h => List.mem_cons_of_mem _ (inlX9 w h)
  suffices hgo : ∀ Q : State → Prop, Q = MQ below (va_Qi (fun r u => r = res.1 ∧ u = res.2) (fun u t => BW D K A (wRd K hRd aTp (hRo 99) u.1 ++ wAB K aTp nTp fTp ++ wRo K hRo u.2) t) A) args s 0 0 A → W p l e (headSpec wz_X7_readPump r_X7_readPump).room s m args below meth c s.heap [] 0 0 Q (entryFrame m args 3) from hgo _ rfl
  intro Q hQ
  have w140 : ∀ (x1 : Int32), ∀ (sRd : MS), ∀ (sRo : MS), ∀ (H : Heap) (locs : List Loc) (ls : Array Slot), f_X7_readPump_140 F nTp fTp x1 sRd sRo = some res → va_P D vwCl (wRd K hRd aTp (hRo 99) sRd ++ wAB K aTp nTp fTp ++ wRo K hRo sRo) H → va_D A (wRd K hRd aTp (hRo 99) sRd ++ wAB K aTp nTp fTp ++ wRo K hRo sRo) → va_S A s.heap H locs → lv_has ls 3 [(0, .ref (hRd 99)), (1, .int x1)] → W p l e (headSpec wz_X7_readPump r_X7_readPump).room s m args below meth c H locs 0 0 Q (F0 m 140 ls []) := by
    intro x1 sRd sRo H locs ls hf hP hD hS hl
    unfold f_X7_readPump_140 at hf
    refine lv_aload_n hx hb dX7_readPump_140 rfl (lv_at hl 0 rfl) ?_
    refine va_ldcS (own := RX7) (index := 178) (tx := "shut") (q := adK 14) hx hb hown (hZ.2.2.2 (RX7, 178, "shut", 14) (List.mem_of_getElem? (i := 29) rfl)) dX7_readPump_141 ?_
    obtain ⟨o29, go29, hf⟩ := bd_s hf
    refine rk_Viz (wn := wRd K hRd aTp (hRo 99) o29.2 ++ wAB K aTp nTp fTp ++ wRo K hRo sRo) [wRd K hRd aTp (hRo 99) sRd, wAB K aTp nTp fTp, wRo K hRo sRo] [wRd K hRd aTp (hRo 99) sRd, wAB K aTp nTp fTp] [wRd K hRd aTp (hRo 99) o29.2, wAB K aTp nTp fTp] [wRd K hRd aTp (hRo 99) o29.2, wAB K aTp nTp fTp, wRo K hRo sRo] (As := [.ref (adK 14)]) (rest := []) ⟨hx, hb, hml, hown, hts⟩ (c_X7_passWord l D K F adK adV tF hRd (hRo 99) aTp nTp H.size sRd fTp 14 o29 go29) (cwV 1 hts (gcV_X7_passWord (mB12 _ (List.mem_of_getElem? (i := 22) rfl))) rfl rfl rfl hdV_X7_passWord ⟨Nat.le_of_ble_eq_true rfl, Nat.le_of_ble_eq_true rfl⟩) hK hP hD hS hA hZ [0, 1] (fl3 _ _ _) rfl (by decide) (fl2 _ _) (fl2 _ _) rfl rfl (fl3 _ _ _) (va_recv hK hP (ci := 6) (q0 := 0) rfl (rwl (rwl o_Rd))) rfl hl.1 rfl (Nat.le_of_ble_eq_true rfl) dX7_readPump_143 ⟨Nat.zero_le _, Nat.zero_le _⟩ (fun H locs hP hD hS => ?_)
    have hP : va_P D vwCl (wRd K hRd aTp (hRo 99) o29.2 ++ wAB K aTp nTp fTp ++ wRo K hRo sRo) H := hP
    have hD : va_D A (wRd K hRd aTp (hRo 99) o29.2 ++ wAB K aTp nTp fTp ++ wRo K hRo sRo) := hD
    refine lv_if_eq (tgt := 159) hx hb dX7_readPump_146 (by decide) (fun c30 => ?_) (fun c30 => ?_)
    · have hf := it_t hf c30
      refine lv_iconst (v := (0 : Int32)) hx hb dX7_readPump_159 (by decide) ?_
      have e9 := Option.some.inj hf
      rw [hQ]
      exact W.zret (v := (0 : Int32)) hx hb hr rfl (fun t ht hW => ⟨⟨(0 : Int32), (o29.2, sRo), rfl, ⟨pr1 e9, pr2 e9⟩, ⟨by rw [ht]; exact hP, va_K.moved hW.alike hK, hD⟩⟩, hS.F ht⟩) hS.2.2 dX7_readPump_160
    · have hf := it_f hf c30
      refine lv_aload_n hx hb dX7_readPump_149 rfl (lv_at hl 0 rfl) ?_
      refine lv_iconst (v := (0 : Int32)) hx hb dX7_readPump_150 (by decide) ?_
      refine lv_bipush (v := (9 : Int32)) hx hb dX7_readPump_151 (by decide) ?_
      obtain ⟨o31, go31, hf⟩ := bd_s hf
      refine rk_Vi (wn := wRd K hRd aTp (hRo 99) o31.2 ++ wAB K aTp nTp fTp ++ wRo K hRo sRo) [wRd K hRd aTp (hRo 99) o29.2, wAB K aTp nTp fTp, wRo K hRo sRo] [wRd K hRd aTp (hRo 99) o29.2, wAB K aTp nTp fTp] [wRd K hRd aTp (hRo 99) o31.2, wAB K aTp nTp fTp] [wRd K hRd aTp (hRo 99) o31.2, wAB K aTp nTp fTp, wRo K hRo sRo] (As := [.int (0 : Int32), .int (9 : Int32)]) (rest := []) ⟨hx, hb, hml, hown, hts⟩ (c_X7_passWhole l D K F hRd (hRo 99) aTp nTp H.size o29.2 fTp (0 : Int32) (9 : Int32) o31 go31) (cwV 2 hts (gcV_X7_passWhole (mB13 _ (List.mem_of_getElem? (i := 2) rfl))) rfl rfl rfl hdV_X7_passWhole ⟨Nat.le_of_ble_eq_true rfl, Nat.le_of_ble_eq_true rfl⟩) hK hP hD hS hA [0, 1] (fl3 _ _ _) rfl (by decide) (fl2 _ _) (fl2 _ _) rfl rfl (fl3 _ _ _) (va_recv hK hP (ci := 6) (q0 := 0) rfl (rwl (rwl o_Rd))) rfl hl.1 rfl (Nat.le_of_ble_eq_true rfl) dX7_readPump_153 ⟨Nat.zero_le _, Nat.zero_le _⟩ (fun H locs hP hD hS => ?_)
      have hP : va_P D vwCl (wRd K hRd aTp (hRo 99) o31.2 ++ wAB K aTp nTp fTp ++ wRo K hRo sRo) H := hP
      have hD : va_D A (wRd K hRd aTp (hRo 99) o31.2 ++ wAB K aTp nTp fTp ++ wRo K hRo sRo) := hD
      refine lv_if_ne (tgt := 161) hx hb dX7_readPump_156 (by decide) (fun c32 => ?_) (fun c32 => ?_)
      · have hf := it_f hf c32
        refine lv_aload_n hx hb dX7_readPump_161 rfl (lv_at hl 0 rfl) ?_
        refine va_get (D := D) (ci := 6) (v := .ref (hRo 99)) (C := RX7) (T := TX7) (N := 11) hx hb hts iX7 hown hK hP 0 (rwl (rwl o_Rd)) rfl 4 (by decide) (htl _ (mB3 _ (List.mem_of_getElem? (i := 18) rfl))) (fun _ h9 => h9) rfl dX7_readPump_162 ?_
        refine va_get (D := D) (ci := 8) (v := .ref (hRo 14)) (C := RX9) (T := TX9) (N := 19) hx hb hts iX9 hown hK hP ((3 + 1) + 0) (rwr (lnA ln_Rd ln_AB) o_Ro) rfl 14 (by decide) (htl _ (mB15 _ (List.mem_of_getElem? (i := 8) rfl))) (fun _ h9 => h9) rfl dX7_readPump_165 ?_
        refine lv_iload_n hx hb dX7_readPump_168 rfl (lv_at hl 1 rfl) ?_
        refine lv_aload_n hx hb dX7_readPump_169 rfl (lv_at hl 0 rfl) ?_
        refine va_get (D := D) (ci := 6) (v := .int (o31.2.1 8)) (C := RX7) (T := TX7) (N := 11) hx hb hts iX7 hown hK hP 0 (rwl (rwl o_Rd)) rfl 8 (by decide) (htl _ (mB12 _ (List.mem_of_getElem? (i := 17) rfl))) (fun _ h9 => h9) rfl dX7_readPump_170 ?_
        obtain ⟨g33, hf⟩ := gd_s hf
        refine va_iast hx hb hK hP hD hS ((3 + 1) + 5) 0 (f := sRo.2.2.1 14) (rwr (lnA ln_Rd ln_AB) a_Ro_14) rfl (vpb_in g33) dX7_readPump_173 (fun H locs hP hD hS => ?_)
        have hP := cvP (str (lnA ln_Rd ln_AB) sa_Ro_14) hP
        have hD := cvD (str (lnA ln_Rd ln_AB) sa_Ro_14) hD
        obtain ⟨s34, es34⟩ : ∃ z, z = sA sRo 14 x1.toNatClampNeg (o31.2.1 8) := ⟨_, rfl⟩
        have hP : va_P D vwCl (wRd K hRd aTp (hRo 99) o31.2 ++ wAB K aTp nTp fTp ++ wRo K hRo s34) H := by rw [es34]; exact hP
        have hD : va_D A (wRd K hRd aTp (hRo 99) o31.2 ++ wAB K aTp nTp fTp ++ wRo K hRo s34) := by rw [es34]; exact hD
        have hf := lz_s hf s34 es34
        refine lv_aload_n hx hb dX7_readPump_174 rfl (lv_at hl 0 rfl) ?_
        refine va_get (D := D) (ci := 6) (v := .ref (hRo 99)) (C := RX7) (T := TX7) (N := 11) hx hb hts iX7 hown hK hP 0 (rwl (rwl o_Rd)) rfl 4 (by decide) (htl _ (mB3 _ (List.mem_of_getElem? (i := 18) rfl))) (fun _ h9 => h9) rfl dX7_readPump_175 ?_
        refine lv_dup hx hb dX7_readPump_178 rfl ?_
        refine va_get (D := D) (ci := 8) (v := .int (s34.1 7)) (C := RX9) (T := TX9) (N := 19) hx hb hts iX9 hown hK hP ((3 + 1) + 0) (rwr (lnA ln_Rd ln_AB) o_Ro) rfl 7 (by decide) (htl _ (mB9 _ (List.mem_of_getElem? (i := 22) rfl))) (fun _ h9 => h9) rfl dX7_readPump_179 ?_
        refine lv_iconst (v := (1 : Int32)) hx hb dX7_readPump_182 (by decide) ?_
        refine lv_iadd hx hb dX7_readPump_183 ?_
        refine lv_topi (fun v35 ev35 => ?_)
        have hf := lz_s hf v35 ev35
        refine va_put (D := D) (ci := 8) (v := .int v35) (ty := .int) (C := RX9) (T := TX9) (N := 19) hx hb hts iX9 tyX9 tyX9_ok nmX9 hown hK hP hD hS ((3 + 1) + 0) (rwr (lnA ln_Rd ln_AB) o_Ro) rfl 7 (by decide) (htl _ (mB9 _ (List.mem_of_getElem? (i := 22) rfl))) (fun _ h9 => h9) rfl (by decide +kernel) rfl rfl (Nat.le_of_ble_eq_true rfl) dX7_readPump_184 (fun H locs hP hD hS => ?_)
        have hP := cvP (str (lnA ln_Rd ln_AB) si_Ro_7) hP
        have hD := cvD (str (lnA ln_Rd ln_AB) si_Ro_7) hD
        obtain ⟨s36, es36⟩ : ∃ z, z = sI s34 7 v35 := ⟨_, rfl⟩
        have hP : va_P D vwCl (wRd K hRd aTp (hRo 99) o31.2 ++ wAB K aTp nTp fTp ++ wRo K hRo s36) H := by rw [es36]; exact hP
        have hD : va_D A (wRd K hRd aTp (hRo 99) o31.2 ++ wAB K aTp nTp fTp ++ wRo K hRo s36) := by rw [es36]; exact hD
        have hf := lz_s hf s36 es36
        refine lv_iconst (v := (1 : Int32)) hx hb dX7_readPump_187 (by decide) ?_
        have e9 := Option.some.inj hf
        rw [hQ]
        exact W.zret (v := (1 : Int32)) hx hb hr rfl (fun t ht hW => ⟨⟨(1 : Int32), (o31.2, s36), rfl, ⟨pr1 e9, pr2 e9⟩, ⟨by rw [ht]; exact hP, va_K.moved hW.alike hK, hD⟩⟩, hS.F ht⟩) hS.2.2 dX7_readPump_188
      · have hf := it_t hf c32
        refine lv_iconst (v := (0 : Int32)) hx hb dX7_readPump_159 (by decide) ?_
        have e9 := Option.some.inj hf
        rw [hQ]
        exact W.zret (v := (0 : Int32)) hx hb hr rfl (fun t ht hW => ⟨⟨(0 : Int32), (o31.2, sRo), rfl, ⟨pr1 e9, pr2 e9⟩, ⟨by rw [ht]; exact hP, va_K.moved hW.alike hK, hD⟩⟩, hS.F ht⟩) hS.2.2 dX7_readPump_160
  have hen : entryFrame m args 3 = entryFrame m (([.ref (hRd 99)] : List Value).toArray) 3 := by rw [hargs]
  have hl := lv_entry ([.ref (hRd 99)]) (n := 3) (Nat.le_of_ble_eq_true rfl)
  rw [hen, lg_entry_eq]
  generalize (lg_sl ([.ref (hRd 99)]) ++ List.replicate (3 - (lg_sl ([.ref (hRd 99)])).length) Slot.unset).toArray = ls at hl ⊢
  have hl : lv_has ls 3 [(0, .ref (hRd 99))] := hl
  unfold f_X7_readPump at hf
  obtain ⟨H, hHe⟩ : ∃ z, z = s.heap := ⟨_, rfl⟩
  obtain ⟨locs, hLe⟩ : ∃ z : List Loc, z = [] := ⟨_, rfl⟩
  rw [← hLe]
  have hS : va_S A s.heap H locs := by rw [hHe, hLe]; exact hS
  have hP : va_P D vwCl (wRd K hRd aTp (hRo 99) sRd ++ wAB K aTp nTp fTp ++ wRo K hRo sRo) H := by rw [hHe]; exact hP
  have hgo : W p l e (headSpec wz_X7_readPump r_X7_readPump).room s m args below meth c H locs 0 0 Q (F0 m 0 ls []) := by
    refine lv_aload_n hx hb dX7_readPump_0 rfl (lv_at hl 0 rfl) ?_
    obtain ⟨o1, go1, hf⟩ := bd_s hf
    refine rk_Vv (wn := wRd K hRd aTp (hRo 99) o1 ++ wAB K aTp nTp fTp ++ wRo K hRo sRo) [wRd K hRd aTp (hRo 99) sRd, wAB K aTp nTp fTp, wRo K hRo sRo] [wRd K hRd aTp (hRo 99) sRd, wAB K aTp nTp fTp] [wRd K hRd aTp (hRo 99) o1, wAB K aTp nTp fTp] [wRd K hRd aTp (hRo 99) o1, wAB K aTp nTp fTp, wRo K hRo sRo] (As := []) (rest := []) ⟨hx, hb, hml, hown, hts⟩ (c_X7_lookOn l D K F hRd (hRo 99) aTp nTp H.size sRd fTp o1 go1) (cwV 0 hts (gcV_X7_lookOn (mB9 _ (List.mem_of_getElem? (i := 2) rfl))) rfl rfl rfl hdV_X7_lookOn ⟨Nat.le_of_ble_eq_true rfl, Nat.le_of_ble_eq_true rfl⟩) hK hP hD hS hA [0, 1] (fl3 _ _ _) rfl (by decide) (fl2 _ _) (fl2 _ _) rfl rfl (fl3 _ _ _) (va_recv hK hP (ci := 6) (q0 := 0) rfl (rwl (rwl o_Rd))) rfl hl.1 rfl (Nat.le_of_ble_eq_true rfl) dX7_readPump_1 ⟨Nat.zero_le _, Nat.zero_le _⟩ (fun H locs hP hD hS => ?_)
    have hP : va_P D vwCl (wRd K hRd aTp (hRo 99) o1 ++ wAB K aTp nTp fTp ++ wRo K hRo sRo) H := hP
    have hD : va_D A (wRd K hRd aTp (hRo 99) o1 ++ wAB K aTp nTp fTp ++ wRo K hRo sRo) := hD
    refine lv_aload_n hx hb dX7_readPump_4 rfl (lv_at hl 0 rfl) ?_
    obtain ⟨o2, go2, hf⟩ := bd_s hf
    refine rs_Viz (As := []) (rest := []) ⟨hx, hb, hml, hown, hts⟩ (c_X7_isToldName l D K F adK adV tF hRd aTp nTp hRo H.size o1 fTp sRo o2 go2) (cwV 0 hts (gcV_X7_isToldName (mB14 _ (List.mem_of_getElem? (i := 10) rfl))) rfl rfl rfl hdV_X7_isToldName ⟨Nat.le_of_ble_eq_true rfl, Nat.le_of_ble_eq_true rfl⟩) hK hP hD hS hA hZ (va_recv hK hP (ci := 6) (q0 := 0) rfl (rwl (rwl o_Rd))) rfl hl.1 rfl (Nat.le_of_ble_eq_true rfl) dX7_readPump_5 ⟨Nat.zero_le _, Nat.zero_le _⟩ (fun H locs hP hD hS => ?_)
    have hP : va_P D vwCl (wRd K hRd aTp (hRo 99) o2.2 ++ wAB K aTp nTp fTp ++ wRo K hRo sRo) H := hP
    have hD : va_D A (wRd K hRd aTp (hRo 99) o2.2 ++ wAB K aTp nTp fTp ++ wRo K hRo sRo) := hD
    refine lv_if_ne (tgt := 13) hx hb dX7_readPump_8 (by decide) (fun c3 => ?_) (fun c3 => ?_)
    · have hf := it_f hf c3
      refine lv_aload_n hx hb dX7_readPump_13 rfl (lv_at hl 0 rfl) ?_
      obtain ⟨o4, go4, hf⟩ := bd_s hf
      refine ro_Vi (As := []) (rest := []) ⟨hx, hb, hml, hown, hts⟩ (c_X7_placeNamed l D K F hRd aTp nTp hRo o2.2 fTp sRo o4 go4) (cwV 0 hts (gcV_X7_placeNamed (mB13 _ (List.mem_of_getElem? (i := 22) rfl))) rfl rfl rfl hdV_X7_placeNamed ⟨Nat.le_of_ble_eq_true rfl, Nat.le_of_ble_eq_true rfl⟩) hK hP hS hP (va_recv hK hP (ci := 6) (q0 := 0) rfl (rwl (rwl o_Rd))) rfl hl.1 rfl (Nat.le_of_ble_eq_true rfl) dX7_readPump_14 ⟨Nat.zero_le _, Nat.zero_le _⟩ (fun H locs hP hS => ?_)
      refine lv_istore_n (lv' := [(1, .int o4), (0, .ref (hRd 99))]) hx hb dX7_readPump_17 rfl hl (by decide) rfl (fun ls hl => ?_)
      refine lv_aload_n hx hb dX7_readPump_18 rfl (lv_at hl 1 rfl) ?_
      refine va_get (D := D) (ci := 6) (v := .ref (hRo 99)) (C := RX7) (T := TX7) (N := 11) hx hb hts iX7 hown hK hP 0 (rwl (rwl o_Rd)) rfl 4 (by decide) (htl _ (mB3 _ (List.mem_of_getElem? (i := 18) rfl))) (fun _ h9 => h9) rfl dX7_readPump_19 ?_
      refine va_get (D := D) (ci := 8) (v := .ref (hRo 12)) (C := RX9) (T := TX9) (N := 19) hx hb hts iX9 hown hK hP ((3 + 1) + 0) (rwr (lnA ln_Rd ln_AB) o_Ro) rfl 12 (by decide) (htl _ (mB15 _ (List.mem_of_getElem? (i := 6) rfl))) (fun _ h9 => h9) rfl dX7_readPump_22 ?_
      refine lv_iload_n hx hb dX7_readPump_25 rfl (lv_at hl 0 rfl) ?_
      obtain ⟨g5, hf⟩ := gd_s hf
      refine va_iald hx hb hK hP ((3 + 1) + 3) 0 (f := sRo.2.2.1 12) (rwr (lnA ln_Rd ln_AB) a_Ro_12) rfl (vpb_in g5) dX7_readPump_26 ?_
      refine lv_topi (fun v6 ev6 => ?_)
      have hf := lz_s hf v6 ev6
      refine lv_if_le (tgt := 36) hx hb dX7_readPump_27 (by decide) (fun c7 => ?_) (fun c7 => ?_)
      · have hf := it_t hf c7
        refine lv_aload_n hx hb dX7_readPump_36 rfl (lv_at hl 1 rfl) ?_
        obtain ⟨o8, go8, hf⟩ := bd_s hf
        refine rk_Vv (wn := wRd K hRd aTp (hRo 99) o8 ++ wAB K aTp nTp fTp ++ wRo K hRo sRo) [wRd K hRd aTp (hRo 99) o2.2, wAB K aTp nTp fTp, wRo K hRo sRo] [wRd K hRd aTp (hRo 99) o2.2, wAB K aTp nTp fTp] [wRd K hRd aTp (hRo 99) o8, wAB K aTp nTp fTp] [wRd K hRd aTp (hRo 99) o8, wAB K aTp nTp fTp, wRo K hRo sRo] (As := []) (rest := []) ⟨hx, hb, hml, hown, hts⟩ (c_X7_lookOn l D K F hRd (hRo 99) aTp nTp H.size o2.2 fTp o8 go8) (cwV 0 hts (gcV_X7_lookOn (mB9 _ (List.mem_of_getElem? (i := 2) rfl))) rfl rfl rfl hdV_X7_lookOn ⟨Nat.le_of_ble_eq_true rfl, Nat.le_of_ble_eq_true rfl⟩) hK hP hD hS hA [0, 1] (fl3 _ _ _) rfl (by decide) (fl2 _ _) (fl2 _ _) rfl rfl (fl3 _ _ _) (va_recv hK hP (ci := 6) (q0 := 0) rfl (rwl (rwl o_Rd))) rfl hl.1 rfl (Nat.le_of_ble_eq_true rfl) dX7_readPump_37 ⟨Nat.zero_le _, Nat.zero_le _⟩ (fun H locs hP hD hS => ?_)
        have hP : va_P D vwCl (wRd K hRd aTp (hRo 99) o8 ++ wAB K aTp nTp fTp ++ wRo K hRo sRo) H := hP
        have hD : va_D A (wRd K hRd aTp (hRo 99) o8 ++ wAB K aTp nTp fTp ++ wRo K hRo sRo) := hD
        refine lv_aload_n hx hb dX7_readPump_40 rfl (lv_at hl 1 rfl) ?_
        refine va_ldcS (own := RX7) (index := 168) (tx := "price") (q := adK 12) hx hb hown (hZ.2.2.2 (RX7, 168, "price", 12) (List.mem_of_getElem? (i := 27) rfl)) dX7_readPump_41 ?_
        obtain ⟨o9, go9, hf⟩ := bd_s hf
        refine rk_Viz (wn := wRd K hRd aTp (hRo 99) o9.2 ++ wAB K aTp nTp fTp ++ wRo K hRo sRo) [wRd K hRd aTp (hRo 99) o8, wAB K aTp nTp fTp, wRo K hRo sRo] [wRd K hRd aTp (hRo 99) o8, wAB K aTp nTp fTp] [wRd K hRd aTp (hRo 99) o9.2, wAB K aTp nTp fTp] [wRd K hRd aTp (hRo 99) o9.2, wAB K aTp nTp fTp, wRo K hRo sRo] (As := [.ref (adK 12)]) (rest := []) ⟨hx, hb, hml, hown, hts⟩ (c_X7_passWord l D K F adK adV tF hRd (hRo 99) aTp nTp H.size o8 fTp 12 o9 go9) (cwV 1 hts (gcV_X7_passWord (mB12 _ (List.mem_of_getElem? (i := 22) rfl))) rfl rfl rfl hdV_X7_passWord ⟨Nat.le_of_ble_eq_true rfl, Nat.le_of_ble_eq_true rfl⟩) hK hP hD hS hA hZ [0, 1] (fl3 _ _ _) rfl (by decide) (fl2 _ _) (fl2 _ _) rfl rfl (fl3 _ _ _) (va_recv hK hP (ci := 6) (q0 := 0) rfl (rwl (rwl o_Rd))) rfl hl.1 rfl (Nat.le_of_ble_eq_true rfl) dX7_readPump_43 ⟨Nat.zero_le _, Nat.zero_le _⟩ (fun H locs hP hD hS => ?_)
        have hP : va_P D vwCl (wRd K hRd aTp (hRo 99) o9.2 ++ wAB K aTp nTp fTp ++ wRo K hRo sRo) H := hP
        have hD : va_D A (wRd K hRd aTp (hRo 99) o9.2 ++ wAB K aTp nTp fTp ++ wRo K hRo sRo) := hD
        refine lv_if_eq (tgt := 59) hx hb dX7_readPump_46 (by decide) (fun c10 => ?_) (fun c10 => ?_)
        · have hf := it_t hf c10
          refine lv_iconst (v := (0 : Int32)) hx hb dX7_readPump_59 (by decide) ?_
          have e9 := Option.some.inj hf
          rw [hQ]
          exact W.zret (v := (0 : Int32)) hx hb hr rfl (fun t ht hW => ⟨⟨(0 : Int32), (o9.2, sRo), rfl, ⟨pr1 e9, pr2 e9⟩, ⟨by rw [ht]; exact hP, va_K.moved hW.alike hK, hD⟩⟩, hS.F ht⟩) hS.2.2 dX7_readPump_60
        · have hf := it_f hf c10
          refine lv_aload_n hx hb dX7_readPump_49 rfl (lv_at hl 1 rfl) ?_
          refine lv_iconst (v := (1 : Int32)) hx hb dX7_readPump_50 (by decide) ?_
          refine lv_bipush (v := (99 : Int32)) hx hb dX7_readPump_51 (by decide) ?_
          obtain ⟨o11, go11, hf⟩ := bd_s hf
          refine rk_Vi (wn := wRd K hRd aTp (hRo 99) o11.2 ++ wAB K aTp nTp fTp ++ wRo K hRo sRo) [wRd K hRd aTp (hRo 99) o9.2, wAB K aTp nTp fTp, wRo K hRo sRo] [wRd K hRd aTp (hRo 99) o9.2, wAB K aTp nTp fTp] [wRd K hRd aTp (hRo 99) o11.2, wAB K aTp nTp fTp] [wRd K hRd aTp (hRo 99) o11.2, wAB K aTp nTp fTp, wRo K hRo sRo] (As := [.int (1 : Int32), .int (99 : Int32)]) (rest := []) ⟨hx, hb, hml, hown, hts⟩ (c_X7_passWhole l D K F hRd (hRo 99) aTp nTp H.size o9.2 fTp (1 : Int32) (99 : Int32) o11 go11) (cwV 2 hts (gcV_X7_passWhole (mB13 _ (List.mem_of_getElem? (i := 2) rfl))) rfl rfl rfl hdV_X7_passWhole ⟨Nat.le_of_ble_eq_true rfl, Nat.le_of_ble_eq_true rfl⟩) hK hP hD hS hA [0, 1] (fl3 _ _ _) rfl (by decide) (fl2 _ _) (fl2 _ _) rfl rfl (fl3 _ _ _) (va_recv hK hP (ci := 6) (q0 := 0) rfl (rwl (rwl o_Rd))) rfl hl.1 rfl (Nat.le_of_ble_eq_true rfl) dX7_readPump_53 ⟨Nat.zero_le _, Nat.zero_le _⟩ (fun H locs hP hD hS => ?_)
          have hP : va_P D vwCl (wRd K hRd aTp (hRo 99) o11.2 ++ wAB K aTp nTp fTp ++ wRo K hRo sRo) H := hP
          have hD : va_D A (wRd K hRd aTp (hRo 99) o11.2 ++ wAB K aTp nTp fTp ++ wRo K hRo sRo) := hD
          refine lv_if_ne (tgt := 61) hx hb dX7_readPump_56 (by decide) (fun c12 => ?_) (fun c12 => ?_)
          · have hf := it_f hf c12
            refine lv_aload_n hx hb dX7_readPump_61 rfl (lv_at hl 1 rfl) ?_
            refine va_get (D := D) (ci := 6) (v := .ref (hRo 99)) (C := RX7) (T := TX7) (N := 11) hx hb hts iX7 hown hK hP 0 (rwl (rwl o_Rd)) rfl 4 (by decide) (htl _ (mB3 _ (List.mem_of_getElem? (i := 18) rfl))) (fun _ h9 => h9) rfl dX7_readPump_62 ?_
            refine va_get (D := D) (ci := 8) (v := .ref (hRo 12)) (C := RX9) (T := TX9) (N := 19) hx hb hts iX9 hown hK hP ((3 + 1) + 0) (rwr (lnA ln_Rd ln_AB) o_Ro) rfl 12 (by decide) (htl _ (mB15 _ (List.mem_of_getElem? (i := 6) rfl))) (fun _ h9 => h9) rfl dX7_readPump_65 ?_
            refine lv_iload_n hx hb dX7_readPump_68 rfl (lv_at hl 0 rfl) ?_
            refine lv_aload_n hx hb dX7_readPump_69 rfl (lv_at hl 1 rfl) ?_
            refine va_get (D := D) (ci := 6) (v := .int (o11.2.1 8)) (C := RX7) (T := TX7) (N := 11) hx hb hts iX7 hown hK hP 0 (rwl (rwl o_Rd)) rfl 8 (by decide) (htl _ (mB12 _ (List.mem_of_getElem? (i := 17) rfl))) (fun _ h9 => h9) rfl dX7_readPump_70 ?_
            obtain ⟨g13, hf⟩ := gd_s hf
            refine va_iast hx hb hK hP hD hS ((3 + 1) + 3) 0 (f := sRo.2.2.1 12) (rwr (lnA ln_Rd ln_AB) a_Ro_12) rfl (vpb_in g13) dX7_readPump_73 (fun H locs hP hD hS => ?_)
            have hP := cvP (str (lnA ln_Rd ln_AB) sa_Ro_12) hP
            have hD := cvD (str (lnA ln_Rd ln_AB) sa_Ro_12) hD
            obtain ⟨s14, es14⟩ : ∃ z, z = sA sRo 12 o4.toNatClampNeg (o11.2.1 8) := ⟨_, rfl⟩
            have hP : va_P D vwCl (wRd K hRd aTp (hRo 99) o11.2 ++ wAB K aTp nTp fTp ++ wRo K hRo s14) H := by rw [es14]; exact hP
            have hD : va_D A (wRd K hRd aTp (hRo 99) o11.2 ++ wAB K aTp nTp fTp ++ wRo K hRo s14) := by rw [es14]; exact hD
            have hf := lz_s hf s14 es14
            refine lv_aload_n hx hb dX7_readPump_74 rfl (lv_at hl 1 rfl) ?_
            refine va_ldcS (own := RX7) (index := 170) (tx := "o\x72") (q := adK 13) hx hb hown (hZ.2.2.2 (RX7, 170, "o\x72", 13) (List.mem_of_getElem? (i := 28) rfl)) dX7_readPump_75 ?_
            obtain ⟨o15, go15, hf⟩ := bd_s hf
            refine ro_Viz (As := [.ref (adK 13)]) (rest := []) ⟨hx, hb, hml, hown, hts⟩ (c_X7_isWord l D K F adK adV tF hRd (hRo 99) aTp nTp o11.2 fTp 13 o15 go15) (cwV 1 hts (gcV_X7_isWord (mB10 _ (List.mem_of_getElem? (i := 0) rfl))) rfl rfl rfl hdV_X7_isWord ⟨Nat.le_of_ble_eq_true rfl, Nat.le_of_ble_eq_true rfl⟩) hK hP hS hZ (va_PL (cs := [wRd K hRd aTp (hRo 99) o11.2, wAB K aTp nTp fTp, wRo K hRo s14]) (cc := [wRd K hRd aTp (hRo 99) o11.2, wAB K aTp nTp fTp]) hP (fl3 _ _ _) [0, 1] rfl (fl2 _ _)) (va_recv hK hP (ci := 6) (q0 := 0) rfl (rwl (rwl o_Rd))) rfl hl.1 rfl (Nat.le_of_ble_eq_true rfl) dX7_readPump_77 ⟨Nat.zero_le _, Nat.zero_le _⟩ (fun H locs hP hS => ?_)
            refine lv_if_eq (tgt := 140) hx hb dX7_readPump_80 (by decide) (fun c16 => ?_) (fun c16 => ?_)
            · have hf := it_t hf c16
              exact w140 o4 o11.2 s14 H locs ls hf hP hD hS (lv_sub hl [1, 0] rfl)
            · have hf := it_f hf c16
              refine lv_aload_n hx hb dX7_readPump_83 rfl (lv_at hl 1 rfl) ?_
              obtain ⟨o17, go17, hf⟩ := bd_s hf
              refine rk_Vv (wn := wRd K hRd aTp (hRo 99) o17 ++ wAB K aTp nTp fTp ++ wRo K hRo s14) [wRd K hRd aTp (hRo 99) o11.2, wAB K aTp nTp fTp, wRo K hRo s14] [wRd K hRd aTp (hRo 99) o11.2, wAB K aTp nTp fTp] [wRd K hRd aTp (hRo 99) o17, wAB K aTp nTp fTp] [wRd K hRd aTp (hRo 99) o17, wAB K aTp nTp fTp, wRo K hRo s14] (As := []) (rest := []) ⟨hx, hb, hml, hown, hts⟩ (c_X7_lookOn l D K F hRd (hRo 99) aTp nTp H.size o11.2 fTp o17 go17) (cwV 0 hts (gcV_X7_lookOn (mB9 _ (List.mem_of_getElem? (i := 2) rfl))) rfl rfl rfl hdV_X7_lookOn ⟨Nat.le_of_ble_eq_true rfl, Nat.le_of_ble_eq_true rfl⟩) hK hP hD hS hA [0, 1] (fl3 _ _ _) rfl (by decide) (fl2 _ _) (fl2 _ _) rfl rfl (fl3 _ _ _) (va_recv hK hP (ci := 6) (q0 := 0) rfl (rwl (rwl o_Rd))) rfl hl.1 rfl (Nat.le_of_ble_eq_true rfl) dX7_readPump_84 ⟨Nat.zero_le _, Nat.zero_le _⟩ (fun H locs hP hD hS => ?_)
              have hP : va_P D vwCl (wRd K hRd aTp (hRo 99) o17 ++ wAB K aTp nTp fTp ++ wRo K hRo s14) H := hP
              have hD : va_D A (wRd K hRd aTp (hRo 99) o17 ++ wAB K aTp nTp fTp ++ wRo K hRo s14) := hD
              refine lv_aload_n hx hb dX7_readPump_87 rfl (lv_at hl 1 rfl) ?_
              refine va_get (D := D) (ci := 6) (v := .int (o17.1 6)) (C := RX7) (T := TX7) (N := 11) hx hb hts iX7 hown hK hP 0 (rwl (rwl o_Rd)) rfl 6 (by decide) (htl _ (mB9 _ (List.mem_of_getElem? (i := 6) rfl))) (fun _ h9 => h9) rfl dX7_readPump_88 ?_
              refine lv_istore_n (lv' := [(2, .int (o17.1 6)), (1, .int o4), (0, .ref (hRd 99))]) hx hb dX7_readPump_91 rfl hl (by decide) rfl (fun ls hl => ?_)
              refine lv_aload_n hx hb dX7_readPump_92 rfl (lv_at hl 2 rfl) ?_
              refine lv_iconst (v := (1 : Int32)) hx hb dX7_readPump_93 (by decide) ?_
              refine lv_bipush (v := (99 : Int32)) hx hb dX7_readPump_94 (by decide) ?_
              obtain ⟨o18, go18, hf⟩ := bd_s hf
              refine rk_Vi (wn := wRd K hRd aTp (hRo 99) o18.2 ++ wAB K aTp nTp fTp ++ wRo K hRo s14) [wRd K hRd aTp (hRo 99) o17, wAB K aTp nTp fTp, wRo K hRo s14] [wRd K hRd aTp (hRo 99) o17, wAB K aTp nTp fTp] [wRd K hRd aTp (hRo 99) o18.2, wAB K aTp nTp fTp] [wRd K hRd aTp (hRo 99) o18.2, wAB K aTp nTp fTp, wRo K hRo s14] (As := [.int (1 : Int32), .int (99 : Int32)]) (rest := []) ⟨hx, hb, hml, hown, hts⟩ (c_X7_passWhole l D K F hRd (hRo 99) aTp nTp H.size o17 fTp (1 : Int32) (99 : Int32) o18 go18) (cwV 2 hts (gcV_X7_passWhole (mB13 _ (List.mem_of_getElem? (i := 2) rfl))) rfl rfl rfl hdV_X7_passWhole ⟨Nat.le_of_ble_eq_true rfl, Nat.le_of_ble_eq_true rfl⟩) hK hP hD hS hA [0, 1] (fl3 _ _ _) rfl (by decide) (fl2 _ _) (fl2 _ _) rfl rfl (fl3 _ _ _) (va_recv hK hP (ci := 6) (q0 := 0) rfl (rwl (rwl o_Rd))) rfl hl.1 rfl (Nat.le_of_ble_eq_true rfl) dX7_readPump_96 ⟨Nat.zero_le _, Nat.zero_le _⟩ (fun H locs hP hD hS => ?_)
              have hP : va_P D vwCl (wRd K hRd aTp (hRo 99) o18.2 ++ wAB K aTp nTp fTp ++ wRo K hRo s14) H := hP
              have hD : va_D A (wRd K hRd aTp (hRo 99) o18.2 ++ wAB K aTp nTp fTp ++ wRo K hRo s14) := hD
              refine lv_if_ne (tgt := 104) hx hb dX7_readPump_99 (by decide) (fun c19 => ?_) (fun c19 => ?_)
              · have hf := it_f hf c19
                refine lv_aload_n hx hb dX7_readPump_104 rfl (lv_at hl 2 rfl) ?_
                refine va_get (D := D) (ci := 6) (v := .int (o18.2.1 8)) (C := RX7) (T := TX7) (N := 11) hx hb hts iX7 hown hK hP 0 (rwl (rwl o_Rd)) rfl 8 (by decide) (htl _ (mB12 _ (List.mem_of_getElem? (i := 17) rfl))) (fun _ h9 => h9) rfl dX7_readPump_105 ?_
                refine lv_aload_n hx hb dX7_readPump_108 rfl (lv_at hl 2 rfl) ?_
                refine va_get (D := D) (ci := 6) (v := .ref (hRo 99)) (C := RX7) (T := TX7) (N := 11) hx hb hts iX7 hown hK hP 0 (rwl (rwl o_Rd)) rfl 4 (by decide) (htl _ (mB3 _ (List.mem_of_getElem? (i := 18) rfl))) (fun _ h9 => h9) rfl dX7_readPump_109 ?_
                refine va_get (D := D) (ci := 8) (v := .ref (hRo 12)) (C := RX9) (T := TX9) (N := 19) hx hb hts iX9 hown hK hP ((3 + 1) + 0) (rwr (lnA ln_Rd ln_AB) o_Ro) rfl 12 (by decide) (htl _ (mB15 _ (List.mem_of_getElem? (i := 6) rfl))) (fun _ h9 => h9) rfl dX7_readPump_112 ?_
                refine lv_iload_n hx hb dX7_readPump_115 rfl (lv_at hl 1 rfl) ?_
                obtain ⟨g20, hf⟩ := gd_s hf
                refine va_iald hx hb hK hP ((3 + 1) + 3) 0 (f := s14.2.2.1 12) (rwr (lnA ln_Rd ln_AB) a_Ro_12) rfl (vpb_in g20) dX7_readPump_116 ?_
                refine lv_topi (fun v21 ev21 => ?_)
                have hf := lz_s hf v21 ev21
                refine lv_icmp_ne (tgt := 127) hx hb dX7_readPump_117 (by decide) (fun c22 => ?_) (fun c22 => ?_)
                · have hf := it_f hf c22
                  refine lv_aload_n hx hb dX7_readPump_127 rfl (lv_at hl 2 rfl) ?_
                  refine va_get (D := D) (ci := 6) (v := .ref (hRo 99)) (C := RX7) (T := TX7) (N := 11) hx hb hts iX7 hown hK hP 0 (rwl (rwl o_Rd)) rfl 4 (by decide) (htl _ (mB3 _ (List.mem_of_getElem? (i := 18) rfl))) (fun _ h9 => h9) rfl dX7_readPump_128 ?_
                  refine va_get (D := D) (ci := 8) (v := .ref (hRo 13)) (C := RX9) (T := TX9) (N := 19) hx hb hts iX9 hown hK hP ((3 + 1) + 0) (rwr (lnA ln_Rd ln_AB) o_Ro) rfl 13 (by decide) (htl _ (mB15 _ (List.mem_of_getElem? (i := 7) rfl))) (fun _ h9 => h9) rfl dX7_readPump_131 ?_
                  refine lv_iload_n hx hb dX7_readPump_134 rfl (lv_at hl 1 rfl) ?_
                  refine lv_aload_n hx hb dX7_readPump_135 rfl (lv_at hl 2 rfl) ?_
                  refine va_get (D := D) (ci := 6) (v := .int (o18.2.1 8)) (C := RX7) (T := TX7) (N := 11) hx hb hts iX7 hown hK hP 0 (rwl (rwl o_Rd)) rfl 8 (by decide) (htl _ (mB12 _ (List.mem_of_getElem? (i := 17) rfl))) (fun _ h9 => h9) rfl dX7_readPump_136 ?_
                  obtain ⟨g23, hf⟩ := gd_s hf
                  refine va_iast hx hb hK hP hD hS ((3 + 1) + 4) 0 (f := s14.2.2.1 13) (rwr (lnA ln_Rd ln_AB) a_Ro_13) rfl (vpb_in g23) dX7_readPump_139 (fun H locs hP hD hS => ?_)
                  have hP := cvP (str (lnA ln_Rd ln_AB) sa_Ro_13) hP
                  have hD := cvD (str (lnA ln_Rd ln_AB) sa_Ro_13) hD
                  obtain ⟨s24, es24⟩ : ∃ z, z = sA s14 13 o4.toNatClampNeg (o18.2.1 8) := ⟨_, rfl⟩
                  have hP : va_P D vwCl (wRd K hRd aTp (hRo 99) o18.2 ++ wAB K aTp nTp fTp ++ wRo K hRo s24) H := by rw [es24]; exact hP
                  have hD : va_D A (wRd K hRd aTp (hRo 99) o18.2 ++ wAB K aTp nTp fTp ++ wRo K hRo s24) := by rw [es24]; exact hD
                  have hf := lz_s hf s24 es24
                  exact w140 o4 o18.2 s24 H locs ls hf hP hD hS (lv_sub hl [2, 1] rfl)
                · have hf := it_t hf c22
                  refine lv_aload_n hx hb dX7_readPump_120 rfl (lv_at hl 2 rfl) ?_
                  refine lv_iconst (v := (3 : Int32)) hx hb dX7_readPump_121 (by decide) ?_
                  refine lv_iload_n hx hb dX7_readPump_122 rfl (lv_at hl 0 rfl) ?_
                  obtain ⟨o25, go25, hf⟩ := bd_s hf
                  refine rk_Vi (wn := wRd K hRd aTp (hRo 99) o25.2 ++ wAB K aTp nTp fTp ++ wRo K hRo s14) [wRd K hRd aTp (hRo 99) o18.2, wAB K aTp nTp fTp, wRo K hRo s14] [wRd K hRd aTp (hRo 99) o18.2] [wRd K hRd aTp (hRo 99) o25.2] [wRd K hRd aTp (hRo 99) o25.2, wAB K aTp nTp fTp, wRo K hRo s14] (As := [.int (3 : Int32), .int (o17.1 6)]) (rest := []) ⟨hx, hb, hml, hown, hts⟩ (c_X7_failAt l D K F hRd aTp (hRo 99) H.size o18.2 (3 : Int32) (o17.1 6) o25 go25) (cwV 2 hts (gcV_X7_failAt (mB12 _ (List.mem_of_getElem? (i := 9) rfl))) rfl rfl rfl hdV_X7_failAt ⟨Nat.le_of_ble_eq_true rfl, Nat.le_of_ble_eq_true rfl⟩) hK hP hD hS hA [0] (fl3 _ _ _) rfl (by decide) (fl1 _) (fl1 _) rfl rfl (fl3 _ _ _) (va_recv hK hP (ci := 6) (q0 := 0) rfl (rwl (rwl o_Rd))) rfl hl.1 rfl (Nat.le_of_ble_eq_true rfl) dX7_readPump_123 ⟨Nat.zero_le _, Nat.zero_le _⟩ (fun H locs hP hD hS => ?_)
                  have hP : va_P D vwCl (wRd K hRd aTp (hRo 99) o25.2 ++ wAB K aTp nTp fTp ++ wRo K hRo s14) H := hP
                  have hD : va_D A (wRd K hRd aTp (hRo 99) o25.2 ++ wAB K aTp nTp fTp ++ wRo K hRo s14) := hD
                  obtain ⟨g26, hf⟩ := gd_s hf
                  have e9 := Option.some.inj hf
                  rw [hQ]
                  exact W.zret (v := o25.1) hx hb hr (bob_s g26) (fun t ht hW => ⟨⟨o25.1, (o25.2, s14), rfl, ⟨pr1 e9, pr2 e9⟩, ⟨by rw [ht]; exact hP, va_K.moved hW.alike hK, hD⟩⟩, hS.F ht⟩) hS.2.2 dX7_readPump_126
              · have hf := it_t hf c19
                refine lv_iconst (v := (0 : Int32)) hx hb dX7_readPump_102 (by decide) ?_
                have e9 := Option.some.inj hf
                rw [hQ]
                exact W.zret (v := (0 : Int32)) hx hb hr rfl (fun t ht hW => ⟨⟨(0 : Int32), (o18.2, s14), rfl, ⟨pr1 e9, pr2 e9⟩, ⟨by rw [ht]; exact hP, va_K.moved hW.alike hK, hD⟩⟩, hS.F ht⟩) hS.2.2 dX7_readPump_103
          · have hf := it_t hf c12
            refine lv_iconst (v := (0 : Int32)) hx hb dX7_readPump_59 (by decide) ?_
            have e9 := Option.some.inj hf
            rw [hQ]
            exact W.zret (v := (0 : Int32)) hx hb hr rfl (fun t ht hW => ⟨⟨(0 : Int32), (o11.2, sRo), rfl, ⟨pr1 e9, pr2 e9⟩, ⟨by rw [ht]; exact hP, va_K.moved hW.alike hK, hD⟩⟩, hS.F ht⟩) hS.2.2 dX7_readPump_60
      · have hf := it_f hf c7
        refine lv_aload_n hx hb dX7_readPump_30 rfl (lv_at hl 1 rfl) ?_
        refine lv_iconst (v := (3 : Int32)) hx hb dX7_readPump_31 (by decide) ?_
        obtain ⟨o27, go27, hf⟩ := bd_s hf
        refine rk_Vi (wn := wRd K hRd aTp (hRo 99) o27.2 ++ wAB K aTp nTp fTp ++ wRo K hRo sRo) [wRd K hRd aTp (hRo 99) o2.2, wAB K aTp nTp fTp, wRo K hRo sRo] [wRd K hRd aTp (hRo 99) o2.2] [wRd K hRd aTp (hRo 99) o27.2] [wRd K hRd aTp (hRo 99) o27.2, wAB K aTp nTp fTp, wRo K hRo sRo] (As := [.int (3 : Int32)]) (rest := []) ⟨hx, hb, hml, hown, hts⟩ (c_X7_failWith l D K F hRd aTp (hRo 99) H.size o2.2 (3 : Int32) o27 go27) (cwV 1 hts (gcV_X7_failWith (mB12 _ (List.mem_of_getElem? (i := 5) rfl))) rfl rfl rfl hdV_X7_failWith ⟨Nat.le_of_ble_eq_true rfl, Nat.le_of_ble_eq_true rfl⟩) hK hP hD hS hA [0] (fl3 _ _ _) rfl (by decide) (fl1 _) (fl1 _) rfl rfl (fl3 _ _ _) (va_recv hK hP (ci := 6) (q0 := 0) rfl (rwl (rwl o_Rd))) rfl hl.1 rfl (Nat.le_of_ble_eq_true rfl) dX7_readPump_32 ⟨Nat.zero_le _, Nat.zero_le _⟩ (fun H locs hP hD hS => ?_)
        have hP : va_P D vwCl (wRd K hRd aTp (hRo 99) o27.2 ++ wAB K aTp nTp fTp ++ wRo K hRo sRo) H := hP
        have hD : va_D A (wRd K hRd aTp (hRo 99) o27.2 ++ wAB K aTp nTp fTp ++ wRo K hRo sRo) := hD
        obtain ⟨g28, hf⟩ := gd_s hf
        have e9 := Option.some.inj hf
        rw [hQ]
        exact W.zret (v := o27.1) hx hb hr (bob_s g28) (fun t ht hW => ⟨⟨o27.1, (o27.2, sRo), rfl, ⟨pr1 e9, pr2 e9⟩, ⟨by rw [ht]; exact hP, va_K.moved hW.alike hK, hD⟩⟩, hS.F ht⟩) hS.2.2 dX7_readPump_35
    · have hf := it_t hf c3
      refine lv_iconst (v := (0 : Int32)) hx hb dX7_readPump_11 (by decide) ?_
      have e9 := Option.some.inj hf
      rw [hQ]
      exact W.zret (v := (0 : Int32)) hx hb hr rfl (fun t ht hW => ⟨⟨(0 : Int32), (o2.2, sRo), rfl, ⟨pr1 e9, pr2 e9⟩, ⟨by rw [ht]; exact hP, va_K.moved hW.alike hK, hD⟩⟩, hS.F ht⟩) hS.2.2 dX7_readPump_12
  rw [hHe] at hgo
  exact hgo

def wz_X7_readWay : List Cond := .code yX7_readWay cX7_readWay 5 (some .boolean) :: wsL_law
abbrev r_X7_readWay : Room := { frames := 7, cells := 0, slots := 0, locals := 147 }
set_option maxHeartbeats 4000000 in
set_option maxRecDepth 100000 in
theorem c_X7_readWay (l : Launch) (D : va_G) (K : Nat → ClassId) (F : Nat) (adK adV : Nat → Nat) (tF : Nat) (hRd : Nat → Nat) (aTp nTp : Nat) (hRo : Nat → Nat) (sz : Nat) (sRd : MS) (fTp : (Nat → Int32)) (sRo : MS) (res : Int32 × MS × MS) (hf : f_X7_readWay F nTp fTp sRd sRo = some res) : Met l yX7_readWay wz_X7_readWay r_X7_readWay (va_Pc [.ref (hRd 99)] (PWz D K adK adV tF (wRd K hRd aTp (hRo 99) sRd ++ wAB K aTp nTp fTp ++ wRo K hRo sRo) sz)) (va_Qi (fun r u => r = res.1 ∧ u = res.2) (fun u t => BW D K (va_A (wRd K hRd aTp (hRo 99) sRd ++ wAB K aTp nTp fTp ++ wRo K hRo sRo) sz) (wRd K hRd aTp (hRo 99) u.1 ++ wAB K aTp nTp fTp ++ wRo K hRo u.2) t) (va_A (wRd K hRd aTp (hRo 99) sRd ++ wAB K aTp nTp fTp ++ wRo K hRo sRo) sz)) 0 0 (va_A (wRd K hRd aTp (hRo 99) sRd ++ wAB K aTp nTp fTp ++ wRo K hRo sRo) sz) := by
  refine Met.ofW (cc := cX7_readWay) (maxL := 5) (ret := (some .boolean)) (by decide) rfl ?_
  intro p e s m args below meth c s₁ B hml hv
  obtain ⟨hargs, ⟨hsz, hP, hK, hD0⟩, hZ⟩ := hv
  have hx := B.exec
  have hb := B.bytes
  have hr := B.returns
  have hts := atoms_spec (ws := wz_X7_readWay) B.pre
  have htl : ∀ w ∈ wsL_law, w.before args s = true := fun w h => hts w (List.mem_cons_of_mem _ h)
  have hown : s.vm.findClass RX7 = some m.cls := findClass_of_methodNamed B.named
  have hlocks := B.notSynchronized
  subst hsz
  have hD := hD0.self (sz := s.heap.size)
  generalize hAe : va_A (wRd K hRd aTp (hRo 99) sRd ++ wAB K aTp nTp fTp ++ wRo K hRo sRo) s.heap.size = A at hD hZ ⊢
  have hA : ∀ q : Nat, s.heap.size ≤ q → A q := fun q h => by rw [← hAe]; exact Or.inr h
  have hS : va_S A s.heap s.heap [] := va_S.rf
  have iX7 : ∀ w ∈ wsX70, w ∈ wz_X7_readWay := fun w h => List.mem_cons_of_mem _ (inlX7 w h)
  have iX9 : ∀ w ∈ wsX90, w ∈ wz_X7_readWay := fun w h => List.mem_cons_of_mem _ (inlX9 w h)
  suffices hgo : ∀ Q : State → Prop, Q = MQ below (va_Qi (fun r u => r = res.1 ∧ u = res.2) (fun u t => BW D K A (wRd K hRd aTp (hRo 99) u.1 ++ wAB K aTp nTp fTp ++ wRo K hRo u.2) t) A) args s 0 0 A → W p l e (headSpec wz_X7_readWay r_X7_readWay).room s m args below meth c s.heap [] 0 0 Q (entryFrame m args 5) from hgo _ rfl
  intro Q hQ
  have w189 : ∀ (x1 : Int32), ∀ (sRd : MS), ∀ (sRo : MS), ∀ (H : Heap) (locs : List Loc) (ls : Array Slot), f_X7_readWay_189 F nTp fTp x1 sRd sRo = some res → va_P D vwCl (wRd K hRd aTp (hRo 99) sRd ++ wAB K aTp nTp fTp ++ wRo K hRo sRo) H → va_D A (wRd K hRd aTp (hRo 99) sRd ++ wAB K aTp nTp fTp ++ wRo K hRo sRo) → va_S A s.heap H locs → lv_has ls 5 [(0, .ref (hRd 99)), (1, .int x1)] → W p l e (headSpec wz_X7_readWay r_X7_readWay).room s m args below meth c H locs 0 0 Q (F0 m 189 ls []) := by
    intro x1 sRd sRo H locs ls hf hP hD hS hl
    unfold f_X7_readWay_189 at hf
    refine lv_aload_n hx hb dX7_readWay_189 rfl (lv_at hl 0 rfl) ?_
    refine va_get (D := D) (ci := 6) (v := .ref (hRo 99)) (C := RX7) (T := TX7) (N := 11) hx hb hts iX7 hown hK hP 0 (rwl (rwl o_Rd)) rfl 4 (by decide) (htl _ (mB3 _ (List.mem_of_getElem? (i := 18) rfl))) (fun _ h9 => h9) rfl dX7_readWay_190 ?_
    refine lv_iload_n hx hb dX7_readWay_193 rfl (lv_at hl 1 rfl) ?_
    refine va_put (D := D) (ci := 8) (v := .int x1) (ty := .int) (C := RX9) (T := TX9) (N := 19) hx hb hts iX9 tyX9 tyX9_ok nmX9 hown hK hP hD hS ((3 + 1) + 0) (rwr (lnA ln_Rd ln_AB) o_Ro) rfl 8 (by decide) (htl _ (mB15 _ (List.mem_of_getElem? (i := 19) rfl))) (fun _ h9 => h9) rfl (by decide +kernel) rfl rfl (Nat.le_of_ble_eq_true rfl) dX7_readWay_194 (fun H locs hP hD hS => ?_)
    have hP := cvP (str (lnA ln_Rd ln_AB) si_Ro_8) hP
    have hD := cvD (str (lnA ln_Rd ln_AB) si_Ro_8) hD
    obtain ⟨s37, es37⟩ : ∃ z, z = sI sRo 8 x1 := ⟨_, rfl⟩
    have hP : va_P D vwCl (wRd K hRd aTp (hRo 99) sRd ++ wAB K aTp nTp fTp ++ wRo K hRo s37) H := by rw [es37]; exact hP
    have hD : va_D A (wRd K hRd aTp (hRo 99) sRd ++ wAB K aTp nTp fTp ++ wRo K hRo s37) := by rw [es37]; exact hD
    have hf := lz_s hf s37 es37
    refine lv_iconst (v := (1 : Int32)) hx hb dX7_readWay_197 (by decide) ?_
    have e9 := Option.some.inj hf
    rw [hQ]
    exact W.zret (v := (1 : Int32)) hx hb hr rfl (fun t ht hW => ⟨⟨(1 : Int32), (sRd, s37), rfl, ⟨pr1 e9, pr2 e9⟩, ⟨by rw [ht]; exact hP, va_K.moved hW.alike hK, hD⟩⟩, hS.F ht⟩) hS.2.2 dX7_readWay_198
  have w182 : ∀ (sRd : MS), ∀ (sRo : MS), ∀ (H : Heap) (locs : List Loc) (ls : Array Slot), f_X7_readWay_182 F nTp fTp sRd sRo = some res → va_P D vwCl (wRd K hRd aTp (hRo 99) sRd ++ wAB K aTp nTp fTp ++ wRo K hRo sRo) H → va_D A (wRd K hRd aTp (hRo 99) sRd ++ wAB K aTp nTp fTp ++ wRo K hRo sRo) → va_S A s.heap H locs → lv_has ls 5 [(0, .ref (hRd 99))] → W p l e (headSpec wz_X7_readWay r_X7_readWay).room s m args below meth c H locs 0 0 Q (F0 m 182 ls []) := by
    intro sRd sRo H locs ls hf hP hD hS hl
    unfold f_X7_readWay_182 at hf
    refine lv_aload_n hx hb dX7_readWay_182 rfl (lv_at hl 0 rfl) ?_
    refine lv_bipush (v := (6 : Int32)) hx hb dX7_readWay_183 (by decide) ?_
    obtain ⟨o35, go35, hf⟩ := bd_s hf
    refine rk_Vi (wn := wRd K hRd aTp (hRo 99) o35.2 ++ wAB K aTp nTp fTp ++ wRo K hRo sRo) [wRd K hRd aTp (hRo 99) sRd, wAB K aTp nTp fTp, wRo K hRo sRo] [wRd K hRd aTp (hRo 99) sRd] [wRd K hRd aTp (hRo 99) o35.2] [wRd K hRd aTp (hRo 99) o35.2, wAB K aTp nTp fTp, wRo K hRo sRo] (As := [.int (6 : Int32)]) (rest := []) ⟨hx, hb, hml, hown, hts⟩ (c_X7_failWith l D K F hRd aTp (hRo 99) H.size sRd (6 : Int32) o35 go35) (cwV 1 hts (gcV_X7_failWith (mB12 _ (List.mem_of_getElem? (i := 5) rfl))) rfl rfl rfl hdV_X7_failWith ⟨Nat.le_of_ble_eq_true rfl, Nat.le_of_ble_eq_true rfl⟩) hK hP hD hS hA [0] (fl3 _ _ _) rfl (by decide) (fl1 _) (fl1 _) rfl rfl (fl3 _ _ _) (va_recv hK hP (ci := 6) (q0 := 0) rfl (rwl (rwl o_Rd))) rfl hl.1 rfl (Nat.le_of_ble_eq_true rfl) dX7_readWay_185 ⟨Nat.zero_le _, Nat.zero_le _⟩ (fun H locs hP hD hS => ?_)
    have hP : va_P D vwCl (wRd K hRd aTp (hRo 99) o35.2 ++ wAB K aTp nTp fTp ++ wRo K hRo sRo) H := hP
    have hD : va_D A (wRd K hRd aTp (hRo 99) o35.2 ++ wAB K aTp nTp fTp ++ wRo K hRo sRo) := hD
    obtain ⟨g36, hf⟩ := gd_s hf
    have e9 := Option.some.inj hf
    rw [hQ]
    exact W.zret (v := o35.1) hx hb hr (bob_s g36) (fun t ht hW => ⟨⟨o35.1, (o35.2, sRo), rfl, ⟨pr1 e9, pr2 e9⟩, ⟨by rw [ht]; exact hP, va_K.moved hW.alike hK, hD⟩⟩, hS.F ht⟩) hS.2.2 dX7_readWay_188
  have w161 : ∀ (x1 : Int32), ∀ (sRd : MS), ∀ (sRo : MS), ∀ (H : Heap) (locs : List Loc) (ls : Array Slot), f_X7_readWay_161 F nTp fTp x1 sRd sRo = some res → va_P D vwCl (wRd K hRd aTp (hRo 99) sRd ++ wAB K aTp nTp fTp ++ wRo K hRo sRo) H → va_D A (wRd K hRd aTp (hRo 99) sRd ++ wAB K aTp nTp fTp ++ wRo K hRo sRo) → va_S A s.heap H locs → lv_has ls 5 [(0, .ref (hRd 99)), (1, .int x1)] → W p l e (headSpec wz_X7_readWay r_X7_readWay).room s m args below meth c H locs 0 0 Q (F0 m 161 ls []) := by
    intro x1 sRd sRo H locs ls hf hP hD hS hl
    unfold f_X7_readWay_161 at hf
    refine lv_iload_n hx hb dX7_readWay_161 rfl (lv_at hl 1 rfl) ?_
    refine lv_iconst (v := (1 : Int32)) hx hb dX7_readWay_162 (by decide) ?_
    refine lv_icmp_ne (tgt := 189) hx hb dX7_readWay_163 (by decide) (fun c31 => ?_) (fun c31 => ?_)
    · have hf := it_f hf c31
      exact w189 x1 sRd sRo H locs ls hf hP hD hS (lv_sub hl [0, 1] rfl)
    · have hf := it_t hf c31
      refine lv_aload_n hx hb dX7_readWay_166 rfl (lv_at hl 0 rfl) ?_
      refine va_get (D := D) (ci := 6) (v := .int (sRd.1 5)) (C := RX7) (T := TX7) (N := 11) hx hb hts iX7 hown hK hP 0 (rwl (rwl o_Rd)) rfl 5 (by decide) (htl _ (mB8 _ (List.mem_of_getElem? (i := 7) rfl))) (fun _ h9 => h9) rfl dX7_readWay_167 ?_
      refine lv_if_eq (tgt := 182) hx hb dX7_readWay_170 (by decide) (fun c32 => ?_) (fun c32 => ?_)
      · have hf := it_t hf c32
        exact w182 sRd sRo H locs ls hf hP hD hS (lv_sub hl [0] rfl)
      · have hf := it_f hf c32
        refine lv_aload_n hx hb dX7_readWay_173 rfl (lv_at hl 0 rfl) ?_
        refine lv_bipush (v := (59 : Int32)) hx hb dX7_readWay_174 (by decide) ?_
        obtain ⟨o33, go33, hf⟩ := bd_s hf
        refine ro_Vi (As := [.int (59 : Int32)]) (rest := []) ⟨hx, hb, hml, hown, hts⟩ (c_X7_isSign l D K F hRd (hRo 99) aTp nTp sRd fTp (59 : Int32) o33 go33) (cwV 1 hts (gcV_X7_isSign (mB13 _ (List.mem_of_getElem? (i := 10) rfl))) rfl rfl rfl hdV_X7_isSign ⟨Nat.le_of_ble_eq_true rfl, Nat.le_of_ble_eq_true rfl⟩) hK hP hS (va_PL (cs := [wRd K hRd aTp (hRo 99) sRd, wAB K aTp nTp fTp, wRo K hRo sRo]) (cc := [wRd K hRd aTp (hRo 99) sRd, wAB K aTp nTp fTp]) hP (fl3 _ _ _) [0, 1] rfl (fl2 _ _)) (va_recv hK hP (ci := 6) (q0 := 0) rfl (rwl (rwl o_Rd))) rfl hl.1 rfl (Nat.le_of_ble_eq_true rfl) dX7_readWay_176 ⟨Nat.zero_le _, Nat.zero_le _⟩ (fun H locs hP hS => ?_)
        refine lv_if_eq (tgt := 189) hx hb dX7_readWay_179 (by decide) (fun c34 => ?_) (fun c34 => ?_)
        · have hf := it_t hf c34
          exact w189 x1 sRd sRo H locs ls hf hP hD hS (lv_sub hl [0, 1] rfl)
        · have hf := it_f hf c34
          exact w182 sRd sRo H locs ls hf hP hD hS (lv_sub hl [0] rfl)
  have w140 : ∀ (k6 : Int32 → Int32 → Int32 → MS → MS → Option (Int32 × MS × MS)), (∀ (x1 : Int32), ∀ (x2 : Int32), ∀ (x3 : Int32), ∀ (sRd : MS), ∀ (sRo : MS), ∀ (H : Heap) (locs : List Loc) (ls : Array Slot), k6 x1 x2 x3 sRd sRo = some res → va_P D vwCl (wRd K hRd aTp (hRo 99) sRd ++ wAB K aTp nTp fTp ++ wRo K hRo sRo) H → va_D A (wRd K hRd aTp (hRo 99) sRd ++ wAB K aTp nTp fTp ++ wRo K hRo sRo) → va_S A s.heap H locs → lv_has ls 5 [(0, .ref (hRd 99)), (1, .int x1), (2, .int x2), (3, .int x3)] → W p l e (headSpec wz_X7_readWay r_X7_readWay).room s m args below meth c H locs 0 0 Q (F0 m 6 ls [])) → ∀ (x1 : Int32), ∀ (x3 : Int32), ∀ (y1 : Int32), ∀ (y2 : Int32), ∀ (sRd : MS), ∀ (sRo : MS), ∀ (H : Heap) (locs : List Loc) (ls : Array Slot), f_X7_readWay_140 F nTp fTp k6 x1 x3 y1 y2 sRd sRo = some res → va_P D vwCl (wRd K hRd aTp (hRo 99) sRd ++ wAB K aTp nTp fTp ++ wRo K hRo sRo) H → va_D A (wRd K hRd aTp (hRo 99) sRd ++ wAB K aTp nTp fTp ++ wRo K hRo sRo) → va_S A s.heap H locs → lv_has ls 5 [(0, .ref (hRd 99)), (1, .int x1), (3, .int x3)] → W p l e (headSpec wz_X7_readWay r_X7_readWay).room s m args below meth c H locs 0 0 Q (F0 m 140 ls [.int y2, .int y1, .ref (hRo 16)]) := by
    intro k6 hk6 x1 x3 y1 y2 sRd sRo H locs ls hf hP hD hS hl
    unfold f_X7_readWay_140 at hf
    obtain ⟨g25, hf⟩ := gd_s hf
    refine va_iast hx hb hK hP hD hS ((3 + 1) + 7) 0 (f := sRo.2.2.1 16) (rwr (lnA ln_Rd ln_AB) a_Ro_16) rfl (vpb_in g25) dX7_readWay_140 (fun H locs hP hD hS => ?_)
    have hP := cvP (str (lnA ln_Rd ln_AB) sa_Ro_16) hP
    have hD := cvD (str (lnA ln_Rd ln_AB) sa_Ro_16) hD
    obtain ⟨s26, es26⟩ : ∃ z, z = sA sRo 16 y1.toNatClampNeg y2 := ⟨_, rfl⟩
    have hP : va_P D vwCl (wRd K hRd aTp (hRo 99) sRd ++ wAB K aTp nTp fTp ++ wRo K hRo s26) H := by rw [es26]; exact hP
    have hD : va_D A (wRd K hRd aTp (hRo 99) sRd ++ wAB K aTp nTp fTp ++ wRo K hRo s26) := by rw [es26]; exact hD
    have hf := lz_s hf s26 es26
    obtain ⟨v27, ev27⟩ : ∃ z : Int32, z = x1 + (1 : Int32) := ⟨_, rfl⟩
    have hf := lz_s hf v27 ev27
    refine lv_iinc (v := v27) (lv' := [(1, .int v27), (0, .ref (hRd 99)), (3, .int x3)]) hx hb dX7_readWay_141 hl (k := 1) rfl (by rw [ev27]; rfl) (by decide) rfl (fun ls hl => ?_)
    refine lv_aload_n hx hb dX7_readWay_144 rfl (lv_at hl 1 rfl) ?_
    obtain ⟨o28, go28, hf⟩ := bd_s hf
    refine rk_Vv (wn := wRd K hRd aTp (hRo 99) o28 ++ wAB K aTp nTp fTp ++ wRo K hRo s26) [wRd K hRd aTp (hRo 99) sRd, wAB K aTp nTp fTp, wRo K hRo s26] [wRd K hRd aTp (hRo 99) sRd, wAB K aTp nTp fTp] [wRd K hRd aTp (hRo 99) o28, wAB K aTp nTp fTp] [wRd K hRd aTp (hRo 99) o28, wAB K aTp nTp fTp, wRo K hRo s26] (As := []) (rest := []) ⟨hx, hb, hml, hown, hts⟩ (c_X7_lookOn l D K F hRd (hRo 99) aTp nTp H.size sRd fTp o28 go28) (cwV 0 hts (gcV_X7_lookOn (mB9 _ (List.mem_of_getElem? (i := 2) rfl))) rfl rfl rfl hdV_X7_lookOn ⟨Nat.le_of_ble_eq_true rfl, Nat.le_of_ble_eq_true rfl⟩) hK hP hD hS hA [0, 1] (fl3 _ _ _) rfl (by decide) (fl2 _ _) (fl2 _ _) rfl rfl (fl3 _ _ _) (va_recv hK hP (ci := 6) (q0 := 0) rfl (rwl (rwl o_Rd))) rfl hl.1 rfl (Nat.le_of_ble_eq_true rfl) dX7_readWay_145 ⟨Nat.zero_le _, Nat.zero_le _⟩ (fun H locs hP hD hS => ?_)
    have hP : va_P D vwCl (wRd K hRd aTp (hRo 99) o28 ++ wAB K aTp nTp fTp ++ wRo K hRo s26) H := hP
    have hD : va_D A (wRd K hRd aTp (hRo 99) o28 ++ wAB K aTp nTp fTp ++ wRo K hRo s26) := hD
    refine lv_aload_n hx hb dX7_readWay_148 rfl (lv_at hl 1 rfl) ?_
    refine lv_bipush (v := (44 : Int32)) hx hb dX7_readWay_149 (by decide) ?_
    obtain ⟨o29, go29, hf⟩ := bd_s hf
    refine ro_Vi (As := [.int (44 : Int32)]) (rest := []) ⟨hx, hb, hml, hown, hts⟩ (c_X7_isSign l D K F hRd (hRo 99) aTp nTp o28 fTp (44 : Int32) o29 go29) (cwV 1 hts (gcV_X7_isSign (mB13 _ (List.mem_of_getElem? (i := 10) rfl))) rfl rfl rfl hdV_X7_isSign ⟨Nat.le_of_ble_eq_true rfl, Nat.le_of_ble_eq_true rfl⟩) hK hP hS (va_PL (cs := [wRd K hRd aTp (hRo 99) o28, wAB K aTp nTp fTp, wRo K hRo s26]) (cc := [wRd K hRd aTp (hRo 99) o28, wAB K aTp nTp fTp]) hP (fl3 _ _ _) [0, 1] rfl (fl2 _ _)) (va_recv hK hP (ci := 6) (q0 := 0) rfl (rwl (rwl o_Rd))) rfl hl.1 rfl (Nat.le_of_ble_eq_true rfl) dX7_readWay_151 ⟨Nat.zero_le _, Nat.zero_le _⟩ (fun H locs hP hS => ?_)
    refine lv_istore_n (lv' := [(2, .int o29), (1, .int v27), (0, .ref (hRd 99)), (3, .int x3)]) hx hb dX7_readWay_154 rfl hl (by decide) rfl (fun ls hl => ?_)
    obtain ⟨v30, ev30⟩ : ∃ z : Int32, z = x3 + (1 : Int32) := ⟨_, rfl⟩
    have hf := lz_s hf v30 ev30
    refine lv_iinc (v := v30) (lv' := [(3, .int v30), (2, .int o29), (1, .int v27), (0, .ref (hRd 99))]) hx hb dX7_readWay_155 hl (k := 3) rfl (by rw [ev30]; rfl) (by decide) rfl (fun ls hl => ?_)
    refine lv_goto (tgt := 6) hx hb dX7_readWay_158 (by decide) ?_
    exact hk6 v27 o29 v30 o28 s26 H locs ls hf hP hD hS (lv_sub hl [3, 2, 1, 0] rfl)
  have w81 : ∀ (k6 : Int32 → Int32 → Int32 → MS → MS → Option (Int32 × MS × MS)), (∀ (x1 : Int32), ∀ (x2 : Int32), ∀ (x3 : Int32), ∀ (sRd : MS), ∀ (sRo : MS), ∀ (H : Heap) (locs : List Loc) (ls : Array Slot), k6 x1 x2 x3 sRd sRo = some res → va_P D vwCl (wRd K hRd aTp (hRo 99) sRd ++ wAB K aTp nTp fTp ++ wRo K hRo sRo) H → va_D A (wRd K hRd aTp (hRo 99) sRd ++ wAB K aTp nTp fTp ++ wRo K hRo sRo) → va_S A s.heap H locs → lv_has ls 5 [(0, .ref (hRd 99)), (1, .int x1), (2, .int x2), (3, .int x3)] → W p l e (headSpec wz_X7_readWay r_X7_readWay).room s m args below meth c H locs 0 0 Q (F0 m 6 ls [])) → ∀ (x1 : Int32), ∀ (x3 : Int32), ∀ (x4 : Int32), ∀ (sRd : MS), ∀ (sRo : MS), ∀ (H : Heap) (locs : List Loc) (ls : Array Slot), f_X7_readWay_81 F nTp fTp k6 x1 x3 x4 sRd sRo = some res → va_P D vwCl (wRd K hRd aTp (hRo 99) sRd ++ wAB K aTp nTp fTp ++ wRo K hRo sRo) H → va_D A (wRd K hRd aTp (hRo 99) sRd ++ wAB K aTp nTp fTp ++ wRo K hRo sRo) → va_S A s.heap H locs → lv_has ls 5 [(0, .ref (hRd 99)), (1, .int x1), (3, .int x3), (4, .int x4)] → W p l e (headSpec wz_X7_readWay r_X7_readWay).room s m args below meth c H locs 0 0 Q (F0 m 81 ls []) := by
    intro k6 hk6 x1 x3 x4 sRd sRo H locs ls hf hP hD hS hl
    unfold f_X7_readWay_81 at hf
    refine lv_aload_n hx hb dX7_readWay_81 rfl (lv_at hl 0 rfl) ?_
    refine va_get (D := D) (ci := 6) (v := .ref (hRo 99)) (C := RX7) (T := TX7) (N := 11) hx hb hts iX7 hown hK hP 0 (rwl (rwl o_Rd)) rfl 4 (by decide) (htl _ (mB3 _ (List.mem_of_getElem? (i := 18) rfl))) (fun _ h9 => h9) rfl dX7_readWay_82 ?_
    refine va_get (D := D) (ci := 8) (v := .ref (hRo 15)) (C := RX9) (T := TX9) (N := 19) hx hb hts iX9 hown hK hP ((3 + 1) + 0) (rwr (lnA ln_Rd ln_AB) o_Ro) rfl 15 (by decide) (htl _ (mB15 _ (List.mem_of_getElem? (i := 17) rfl))) (fun _ h9 => h9) rfl dX7_readWay_85 ?_
    refine lv_iload_n hx hb dX7_readWay_88 rfl (lv_at hl 2 rfl) ?_
    refine lv_iload hx hb dX7_readWay_89 (lv_at hl 3 rfl) ?_
    obtain ⟨g17, hf⟩ := gd_s hf
    refine va_iast hx hb hK hP hD hS ((3 + 1) + 6) 0 (f := sRo.2.2.1 15) (rwr (lnA ln_Rd ln_AB) a_Ro_15) rfl (vpb_in g17) dX7_readWay_91 (fun H locs hP hD hS => ?_)
    have hP := cvP (str (lnA ln_Rd ln_AB) sa_Ro_15) hP
    have hD := cvD (str (lnA ln_Rd ln_AB) sa_Ro_15) hD
    obtain ⟨s18, es18⟩ : ∃ z, z = sA sRo 15 x3.toNatClampNeg x4 := ⟨_, rfl⟩
    have hP : va_P D vwCl (wRd K hRd aTp (hRo 99) sRd ++ wAB K aTp nTp fTp ++ wRo K hRo s18) H := by rw [es18]; exact hP
    have hD : va_D A (wRd K hRd aTp (hRo 99) sRd ++ wAB K aTp nTp fTp ++ wRo K hRo s18) := by rw [es18]; exact hD
    have hf := lz_s hf s18 es18
    refine lv_aload_n hx hb dX7_readWay_92 rfl (lv_at hl 0 rfl) ?_
    refine va_get (D := D) (ci := 6) (v := .ref (hRo 99)) (C := RX7) (T := TX7) (N := 11) hx hb hts iX7 hown hK hP 0 (rwl (rwl o_Rd)) rfl 4 (by decide) (htl _ (mB3 _ (List.mem_of_getElem? (i := 18) rfl))) (fun _ h9 => h9) rfl dX7_readWay_93 ?_
    refine va_get (D := D) (ci := 8) (v := .ref (hRo 16)) (C := RX9) (T := TX9) (N := 19) hx hb hts iX9 hown hK hP ((3 + 1) + 0) (rwr (lnA ln_Rd ln_AB) o_Ro) rfl 16 (by decide) (htl _ (mB15 _ (List.mem_of_getElem? (i := 18) rfl))) (fun _ h9 => h9) rfl dX7_readWay_96 ?_
    refine lv_iload_n hx hb dX7_readWay_99 rfl (lv_at hl 2 rfl) ?_
    refine lv_iload_n hx hb dX7_readWay_100 rfl (lv_at hl 2 rfl) ?_
    refine lv_if_le (tgt := 139) hx hb dX7_readWay_101 (by decide) (fun c19 => ?_) (fun c19 => ?_)
    · have hf := it_t hf c19
      refine lv_iconst (v := (0 : Int32)) hx hb dX7_readWay_139 (by decide) ?_
      exact w140 k6 hk6 x1 x3 x3 (0 : Int32) sRd s18 H locs ls hf hP hD hS (lv_sub hl [0, 1, 2] rfl)
    · have hf := it_f hf c19
      refine lv_aload_n hx hb dX7_readWay_104 rfl (lv_at hl 0 rfl) ?_
      refine va_get (D := D) (ci := 6) (v := .ref (hRo 99)) (C := RX7) (T := TX7) (N := 11) hx hb hts iX7 hown hK hP 0 (rwl (rwl o_Rd)) rfl 4 (by decide) (htl _ (mB3 _ (List.mem_of_getElem? (i := 18) rfl))) (fun _ h9 => h9) rfl dX7_readWay_105 ?_
      refine va_get (D := D) (ci := 8) (v := .ref (hRo 16)) (C := RX9) (T := TX9) (N := 19) hx hb hts iX9 hown hK hP ((3 + 1) + 0) (rwr (lnA ln_Rd ln_AB) o_Ro) rfl 16 (by decide) (htl _ (mB15 _ (List.mem_of_getElem? (i := 18) rfl))) (fun _ h9 => h9) rfl dX7_readWay_108 ?_
      refine lv_iload_n hx hb dX7_readWay_111 rfl (lv_at hl 2 rfl) ?_
      refine lv_iconst (v := (1 : Int32)) hx hb dX7_readWay_112 (by decide) ?_
      refine lv_isub hx hb dX7_readWay_113 ?_
      obtain ⟨g20, hf⟩ := gd_s hf
      refine va_iald hx hb hK hP ((3 + 1) + 7) 0 (f := s18.2.2.1 16) (rwr (lnA ln_Rd ln_AB) a_Ro_16) rfl (vpb_in g20) dX7_readWay_114 ?_
      refine lv_topi (fun v21 ev21 => ?_)
      have hf := lz_s hf v21 ev21
      refine lv_aload_n hx hb dX7_readWay_115 rfl (lv_at hl 0 rfl) ?_
      refine va_get (D := D) (ci := 6) (v := .ref (hRo 99)) (C := RX7) (T := TX7) (N := 11) hx hb hts iX7 hown hK hP 0 (rwl (rwl o_Rd)) rfl 4 (by decide) (htl _ (mB3 _ (List.mem_of_getElem? (i := 18) rfl))) (fun _ h9 => h9) rfl dX7_readWay_116 ?_
      refine lv_aload_n hx hb dX7_readWay_119 rfl (lv_at hl 0 rfl) ?_
      refine va_get (D := D) (ci := 6) (v := .ref (hRo 99)) (C := RX7) (T := TX7) (N := 11) hx hb hts iX7 hown hK hP 0 (rwl (rwl o_Rd)) rfl 4 (by decide) (htl _ (mB3 _ (List.mem_of_getElem? (i := 18) rfl))) (fun _ h9 => h9) rfl dX7_readWay_120 ?_
      refine va_get (D := D) (ci := 8) (v := .ref (hRo 15)) (C := RX9) (T := TX9) (N := 19) hx hb hts iX9 hown hK hP ((3 + 1) + 0) (rwr (lnA ln_Rd ln_AB) o_Ro) rfl 15 (by decide) (htl _ (mB15 _ (List.mem_of_getElem? (i := 17) rfl))) (fun _ h9 => h9) rfl dX7_readWay_123 ?_
      refine lv_iload_n hx hb dX7_readWay_126 rfl (lv_at hl 2 rfl) ?_
      refine lv_iconst (v := (1 : Int32)) hx hb dX7_readWay_127 (by decide) ?_
      refine lv_isub hx hb dX7_readWay_128 ?_
      obtain ⟨g22, hf⟩ := gd_s hf
      refine va_iald hx hb hK hP ((3 + 1) + 6) 0 (f := s18.2.2.1 15) (rwr (lnA ln_Rd ln_AB) a_Ro_15) rfl (vpb_in g22) dX7_readWay_129 ?_
      refine lv_topi (fun v23 ev23 => ?_)
      have hf := lz_s hf v23 ev23
      refine lv_iload hx hb dX7_readWay_130 (lv_at hl 3 rfl) ?_
      obtain ⟨o24, go24, hf⟩ := bd_s hf
      refine ro_Vi (As := [.int v23, .int x4]) (rest := [.int v21, .int x3, .ref (hRo 16)]) ⟨hx, hb, hml, hown, hts⟩ (c_X9_pintsOf l D K F hRo s18 v23 x4 o24 go24) (cwV 2 hts (gcV_X9_pintsOf (mB15 _ (List.mem_of_getElem? (i := 20) rfl))) rfl rfl rfl hdV_X9_pintsOf ⟨Nat.le_of_ble_eq_true rfl, Nat.le_of_ble_eq_true rfl⟩) hK hP hS (va_PL (cs := [wRd K hRd aTp (hRo 99) sRd, wAB K aTp nTp fTp, wRo K hRo s18]) (cc := [wRo K hRo s18]) hP (fl3 _ _ _) [2] rfl (fl1 _)) (va_recv hK hP (ci := 8) (q0 := ((3 + 1) + 0)) rfl (rwr (lnA ln_Rd ln_AB) o_Ro)) rfl hl.1 rfl (Nat.le_of_ble_eq_true rfl) dX7_readWay_132 ⟨Nat.zero_le _, Nat.zero_le _⟩ (fun H locs hP hS => ?_)
      refine lv_iadd hx hb dX7_readWay_135 ?_
      refine lv_goto (tgt := 140) hx hb dX7_readWay_136 (by decide) ?_
      exact w140 k6 hk6 x1 x3 x3 (v21 + o24) sRd s18 H locs ls hf hP hD hS (lv_sub hl [0, 1, 2] rfl)
  have w74 : ∀ (sRd : MS), ∀ (sRo : MS), ∀ (H : Heap) (locs : List Loc) (ls : Array Slot), f_X7_readWay_74 F nTp fTp sRd sRo = some res → va_P D vwCl (wRd K hRd aTp (hRo 99) sRd ++ wAB K aTp nTp fTp ++ wRo K hRo sRo) H → va_D A (wRd K hRd aTp (hRo 99) sRd ++ wAB K aTp nTp fTp ++ wRo K hRo sRo) → va_S A s.heap H locs → lv_has ls 5 [(0, .ref (hRd 99))] → W p l e (headSpec wz_X7_readWay r_X7_readWay).room s m args below meth c H locs 0 0 Q (F0 m 74 ls []) := by
    intro sRd sRo H locs ls hf hP hD hS hl
    unfold f_X7_readWay_74 at hf
    refine lv_aload_n hx hb dX7_readWay_74 rfl (lv_at hl 0 rfl) ?_
    refine lv_bipush (v := (7 : Int32)) hx hb dX7_readWay_75 (by decide) ?_
    obtain ⟨o15, go15, hf⟩ := bd_s hf
    refine rk_Vi (wn := wRd K hRd aTp (hRo 99) o15.2 ++ wAB K aTp nTp fTp ++ wRo K hRo sRo) [wRd K hRd aTp (hRo 99) sRd, wAB K aTp nTp fTp, wRo K hRo sRo] [wRd K hRd aTp (hRo 99) sRd] [wRd K hRd aTp (hRo 99) o15.2] [wRd K hRd aTp (hRo 99) o15.2, wAB K aTp nTp fTp, wRo K hRo sRo] (As := [.int (7 : Int32)]) (rest := []) ⟨hx, hb, hml, hown, hts⟩ (c_X7_failWith l D K F hRd aTp (hRo 99) H.size sRd (7 : Int32) o15 go15) (cwV 1 hts (gcV_X7_failWith (mB12 _ (List.mem_of_getElem? (i := 5) rfl))) rfl rfl rfl hdV_X7_failWith ⟨Nat.le_of_ble_eq_true rfl, Nat.le_of_ble_eq_true rfl⟩) hK hP hD hS hA [0] (fl3 _ _ _) rfl (by decide) (fl1 _) (fl1 _) rfl rfl (fl3 _ _ _) (va_recv hK hP (ci := 6) (q0 := 0) rfl (rwl (rwl o_Rd))) rfl hl.1 rfl (Nat.le_of_ble_eq_true rfl) dX7_readWay_77 ⟨Nat.zero_le _, Nat.zero_le _⟩ (fun H locs hP hD hS => ?_)
    have hP : va_P D vwCl (wRd K hRd aTp (hRo 99) o15.2 ++ wAB K aTp nTp fTp ++ wRo K hRo sRo) H := hP
    have hD : va_D A (wRd K hRd aTp (hRo 99) o15.2 ++ wAB K aTp nTp fTp ++ wRo K hRo sRo) := hD
    obtain ⟨g16, hf⟩ := gd_s hf
    have e9 := Option.some.inj hf
    rw [hQ]
    exact W.zret (v := o15.1) hx hb hr (bob_s g16) (fun t ht hW => ⟨⟨o15.1, (o15.2, sRo), rfl, ⟨pr1 e9, pr2 e9⟩, ⟨by rw [ht]; exact hP, va_K.moved hW.alike hK, hD⟩⟩, hS.F ht⟩) hS.2.2 dX7_readWay_80
  have w35 : ∀ (sRd : MS), ∀ (sRo : MS), ∀ (H : Heap) (locs : List Loc) (ls : Array Slot), f_X7_readWay_35 F nTp fTp sRd sRo = some res → va_P D vwCl (wRd K hRd aTp (hRo 99) sRd ++ wAB K aTp nTp fTp ++ wRo K hRo sRo) H → va_D A (wRd K hRd aTp (hRo 99) sRd ++ wAB K aTp nTp fTp ++ wRo K hRo sRo) → va_S A s.heap H locs → lv_has ls 5 [(0, .ref (hRd 99))] → W p l e (headSpec wz_X7_readWay r_X7_readWay).room s m args below meth c H locs 0 0 Q (F0 m 35 ls []) := by
    intro sRd sRo H locs ls hf hP hD hS hl
    unfold f_X7_readWay_35 at hf
    refine lv_aload_n hx hb dX7_readWay_35 rfl (lv_at hl 0 rfl) ?_
    refine lv_iconst (v := (5 : Int32)) hx hb dX7_readWay_36 (by decide) ?_
    obtain ⟨o13, go13, hf⟩ := bd_s hf
    refine rk_Vi (wn := wRd K hRd aTp (hRo 99) o13.2 ++ wAB K aTp nTp fTp ++ wRo K hRo sRo) [wRd K hRd aTp (hRo 99) sRd, wAB K aTp nTp fTp, wRo K hRo sRo] [wRd K hRd aTp (hRo 99) sRd] [wRd K hRd aTp (hRo 99) o13.2] [wRd K hRd aTp (hRo 99) o13.2, wAB K aTp nTp fTp, wRo K hRo sRo] (As := [.int (5 : Int32)]) (rest := []) ⟨hx, hb, hml, hown, hts⟩ (c_X7_failWith l D K F hRd aTp (hRo 99) H.size sRd (5 : Int32) o13 go13) (cwV 1 hts (gcV_X7_failWith (mB12 _ (List.mem_of_getElem? (i := 5) rfl))) rfl rfl rfl hdV_X7_failWith ⟨Nat.le_of_ble_eq_true rfl, Nat.le_of_ble_eq_true rfl⟩) hK hP hD hS hA [0] (fl3 _ _ _) rfl (by decide) (fl1 _) (fl1 _) rfl rfl (fl3 _ _ _) (va_recv hK hP (ci := 6) (q0 := 0) rfl (rwl (rwl o_Rd))) rfl hl.1 rfl (Nat.le_of_ble_eq_true rfl) dX7_readWay_37 ⟨Nat.zero_le _, Nat.zero_le _⟩ (fun H locs hP hD hS => ?_)
    have hP : va_P D vwCl (wRd K hRd aTp (hRo 99) o13.2 ++ wAB K aTp nTp fTp ++ wRo K hRo sRo) H := hP
    have hD : va_D A (wRd K hRd aTp (hRo 99) o13.2 ++ wAB K aTp nTp fTp ++ wRo K hRo sRo) := hD
    obtain ⟨g14, hf⟩ := gd_s hf
    have e9 := Option.some.inj hf
    rw [hQ]
    exact W.zret (v := o13.1) hx hb hr (bob_s g14) (fun t ht hW => ⟨⟨o13.1, (o13.2, sRo), rfl, ⟨pr1 e9, pr2 e9⟩, ⟨by rw [ht]; exact hP, va_K.moved hW.alike hK, hD⟩⟩, hS.F ht⟩) hS.2.2 dX7_readWay_40
  have w6 : ∀ (n : Nat), ∀ (x1 : Int32), ∀ (x2 : Int32), ∀ (x3 : Int32), ∀ (sRd : MS), ∀ (sRo : MS), ∀ (H : Heap) (locs : List Loc) (ls : Array Slot), f_X7_readWay_6 F nTp fTp n x1 x2 x3 sRd sRo = some res → va_P D vwCl (wRd K hRd aTp (hRo 99) sRd ++ wAB K aTp nTp fTp ++ wRo K hRo sRo) H → va_D A (wRd K hRd aTp (hRo 99) sRd ++ wAB K aTp nTp fTp ++ wRo K hRo sRo) → va_S A s.heap H locs → lv_has ls 5 [(0, .ref (hRd 99)), (1, .int x1), (2, .int x2), (3, .int x3)] → W p l e (headSpec wz_X7_readWay r_X7_readWay).room s m args below meth c H locs 0 0 Q (F0 m 6 ls []) := by
    intro n
    induction n with
    | zero =>
      intro x1 x2 x3 sRd sRo H locs ls hf
      exact absurd (show none = some res from hf) (fun h => nomatch h)
    | succ n ih =>
      intro x1 x2 x3 sRd sRo H locs ls hf hP hD hS hl
      rw [f_X7_readWay_6] at hf
      refine lv_iload_n hx hb dX7_readWay_6 rfl (lv_at hl 2 rfl) ?_
      refine lv_if_eq (tgt := 161) hx hb dX7_readWay_7 (by decide) (fun c1 => ?_) (fun c1 => ?_)
      · have hf := it_t hf c1
        exact w161 x1 sRd sRo H locs ls hf hP hD hS (lv_sub hl [0, 1] rfl)
      · have hf := it_f hf c1
        refine lv_iload_n hx hb dX7_readWay_10 rfl (lv_at hl 3 rfl) ?_
        refine lv_bipush (v := (9 : Int32)) hx hb dX7_readWay_11 (by decide) ?_
        refine lv_icmp_gt (tgt := 161) hx hb dX7_readWay_13 (by decide) (fun c2 => ?_) (fun c2 => ?_)
        · have hf := it_t hf c2
          exact w161 x1 sRd sRo H locs ls hf hP hD hS (lv_sub hl [0, 1] rfl)
        · have hf := it_f hf c2
          refine lv_aload_n hx hb dX7_readWay_16 rfl (lv_at hl 0 rfl) ?_
          obtain ⟨o3, go3, hf⟩ := bd_s hf
          refine rk_Vv (wn := wRd K hRd aTp (hRo 99) o3 ++ wAB K aTp nTp fTp ++ wRo K hRo sRo) [wRd K hRd aTp (hRo 99) sRd, wAB K aTp nTp fTp, wRo K hRo sRo] [wRd K hRd aTp (hRo 99) sRd, wAB K aTp nTp fTp] [wRd K hRd aTp (hRo 99) o3, wAB K aTp nTp fTp] [wRd K hRd aTp (hRo 99) o3, wAB K aTp nTp fTp, wRo K hRo sRo] (As := []) (rest := []) ⟨hx, hb, hml, hown, hts⟩ (c_X7_lookOn l D K F hRd (hRo 99) aTp nTp H.size sRd fTp o3 go3) (cwV 0 hts (gcV_X7_lookOn (mB9 _ (List.mem_of_getElem? (i := 2) rfl))) rfl rfl rfl hdV_X7_lookOn ⟨Nat.le_of_ble_eq_true rfl, Nat.le_of_ble_eq_true rfl⟩) hK hP hD hS hA [0, 1] (fl3 _ _ _) rfl (by decide) (fl2 _ _) (fl2 _ _) rfl rfl (fl3 _ _ _) (va_recv hK hP (ci := 6) (q0 := 0) rfl (rwl (rwl o_Rd))) rfl hl.1 rfl (Nat.le_of_ble_eq_true rfl) dX7_readWay_17 ⟨Nat.zero_le _, Nat.zero_le _⟩ (fun H locs hP hD hS => ?_)
          have hP : va_P D vwCl (wRd K hRd aTp (hRo 99) o3 ++ wAB K aTp nTp fTp ++ wRo K hRo sRo) H := hP
          have hD : va_D A (wRd K hRd aTp (hRo 99) o3 ++ wAB K aTp nTp fTp ++ wRo K hRo sRo) := hD
          refine lv_aload_n hx hb dX7_readWay_20 rfl (lv_at hl 0 rfl) ?_
          obtain ⟨o4, go4, hf⟩ := bd_s hf
          refine rs_Viz (As := []) (rest := []) ⟨hx, hb, hml, hown, hts⟩ (c_X7_isToldName l D K F adK adV tF hRd aTp nTp hRo H.size o3 fTp sRo o4 go4) (cwV 0 hts (gcV_X7_isToldName (mB14 _ (List.mem_of_getElem? (i := 10) rfl))) rfl rfl rfl hdV_X7_isToldName ⟨Nat.le_of_ble_eq_true rfl, Nat.le_of_ble_eq_true rfl⟩) hK hP hD hS hA hZ (va_recv hK hP (ci := 6) (q0 := 0) rfl (rwl (rwl o_Rd))) rfl hl.1 rfl (Nat.le_of_ble_eq_true rfl) dX7_readWay_21 ⟨Nat.zero_le _, Nat.zero_le _⟩ (fun H locs hP hD hS => ?_)
          have hP : va_P D vwCl (wRd K hRd aTp (hRo 99) o4.2 ++ wAB K aTp nTp fTp ++ wRo K hRo sRo) H := hP
          have hD : va_D A (wRd K hRd aTp (hRo 99) o4.2 ++ wAB K aTp nTp fTp ++ wRo K hRo sRo) := hD
          refine lv_if_ne (tgt := 29) hx hb dX7_readWay_24 (by decide) (fun c5 => ?_) (fun c5 => ?_)
          · have hf := it_f hf c5
            refine lv_iload_n hx hb dX7_readWay_29 rfl (lv_at hl 3 rfl) ?_
            refine lv_bipush (v := (9 : Int32)) hx hb dX7_readWay_30 (by decide) ?_
            refine lv_icmp_lt (tgt := 41) hx hb dX7_readWay_32 (by decide) (fun c6 => ?_) (fun c6 => ?_)
            · have hf := it_t hf c6
              refine lv_aload_n hx hb dX7_readWay_41 rfl (lv_at hl 0 rfl) ?_
              obtain ⟨o7, go7, hf⟩ := bd_s hf
              refine ro_Vi (As := []) (rest := []) ⟨hx, hb, hml, hown, hts⟩ (c_X7_placeNamed l D K F hRd aTp nTp hRo o4.2 fTp sRo o7 go7) (cwV 0 hts (gcV_X7_placeNamed (mB13 _ (List.mem_of_getElem? (i := 22) rfl))) rfl rfl rfl hdV_X7_placeNamed ⟨Nat.le_of_ble_eq_true rfl, Nat.le_of_ble_eq_true rfl⟩) hK hP hS hP (va_recv hK hP (ci := 6) (q0 := 0) rfl (rwl (rwl o_Rd))) rfl hl.1 rfl (Nat.le_of_ble_eq_true rfl) dX7_readWay_42 ⟨Nat.zero_le _, Nat.zero_le _⟩ (fun H locs hP hS => ?_)
              refine lv_istore (lv' := [(4, .int o7), (0, .ref (hRd 99)), (1, .int x1), (2, .int x2), (3, .int x3)]) hx hb dX7_readWay_45 hl (by decide) rfl (fun ls hl => ?_)
              refine lv_iload_n hx hb dX7_readWay_47 rfl (lv_at hl 4 rfl) ?_
              refine lv_if_le (tgt := 81) hx hb dX7_readWay_48 (by decide) (fun c8 => ?_) (fun c8 => ?_)
              · have hf := it_t hf c8
                exact w81 (f_X7_readWay_6 F nTp fTp n) ih x1 x3 o7 o4.2 sRo H locs ls hf hP hD hS (lv_sub hl [1, 2, 4, 0] rfl)
              · have hf := it_f hf c8
                refine lv_aload_n hx hb dX7_readWay_51 rfl (lv_at hl 1 rfl) ?_
                refine va_get (D := D) (ci := 6) (v := .ref (hRo 99)) (C := RX7) (T := TX7) (N := 11) hx hb hts iX7 hown hK hP 0 (rwl (rwl o_Rd)) rfl 4 (by decide) (htl _ (mB3 _ (List.mem_of_getElem? (i := 18) rfl))) (fun _ h9 => h9) rfl dX7_readWay_52 ?_
                refine lv_aload_n hx hb dX7_readWay_55 rfl (lv_at hl 1 rfl) ?_
                refine va_get (D := D) (ci := 6) (v := .ref (hRo 99)) (C := RX7) (T := TX7) (N := 11) hx hb hts iX7 hown hK hP 0 (rwl (rwl o_Rd)) rfl 4 (by decide) (htl _ (mB3 _ (List.mem_of_getElem? (i := 18) rfl))) (fun _ h9 => h9) rfl dX7_readWay_56 ?_
                refine va_get (D := D) (ci := 8) (v := .ref (hRo 15)) (C := RX9) (T := TX9) (N := 19) hx hb hts iX9 hown hK hP ((3 + 1) + 0) (rwr (lnA ln_Rd ln_AB) o_Ro) rfl 15 (by decide) (htl _ (mB15 _ (List.mem_of_getElem? (i := 17) rfl))) (fun _ h9 => h9) rfl dX7_readWay_59 ?_
                refine lv_iload_n hx hb dX7_readWay_62 rfl (lv_at hl 4 rfl) ?_
                refine lv_iconst (v := (1 : Int32)) hx hb dX7_readWay_63 (by decide) ?_
                refine lv_isub hx hb dX7_readWay_64 ?_
                obtain ⟨g9, hf⟩ := gd_s hf
                refine va_iald hx hb hK hP ((3 + 1) + 6) 0 (f := sRo.2.2.1 15) (rwr (lnA ln_Rd ln_AB) a_Ro_15) rfl (vpb_in g9) dX7_readWay_65 ?_
                refine lv_topi (fun v10 ev10 => ?_)
                have hf := lz_s hf v10 ev10
                refine lv_iload hx hb dX7_readWay_66 (lv_at hl 0 rfl) ?_
                obtain ⟨o11, go11, hf⟩ := bd_s hf
                refine ro_Vi (As := [.int v10, .int o7]) (rest := []) ⟨hx, hb, hml, hown, hts⟩ (c_X9_isRoad l D K F hRo sRo v10 o7 o11 go11) (cwV 2 hts (gcV_X9_isRoad (mB14 _ (List.mem_of_getElem? (i := 14) rfl))) rfl rfl rfl hdV_X9_isRoad ⟨Nat.le_of_ble_eq_true rfl, Nat.le_of_ble_eq_true rfl⟩) hK hP hS (va_PL (cs := [wRd K hRd aTp (hRo 99) o4.2, wAB K aTp nTp fTp, wRo K hRo sRo]) (cc := [wRo K hRo sRo]) hP (fl3 _ _ _) [2] rfl (fl1 _)) (va_recv hK hP (ci := 8) (q0 := ((3 + 1) + 0)) rfl (rwr (lnA ln_Rd ln_AB) o_Ro)) rfl hl.1 rfl (Nat.le_of_ble_eq_true rfl) dX7_readWay_68 ⟨Nat.zero_le _, Nat.zero_le _⟩ (fun H locs hP hS => ?_)
                refine lv_if_ne (tgt := 81) hx hb dX7_readWay_71 (by decide) (fun c12 => ?_) (fun c12 => ?_)
                · have hf := it_f hf c12
                  exact w81 (f_X7_readWay_6 F nTp fTp n) ih x1 x3 o7 o4.2 sRo H locs ls hf hP hD hS (lv_sub hl [1, 2, 4, 0] rfl)
                · have hf := it_t hf c12
                  exact w74 o4.2 sRo H locs ls hf hP hD hS (lv_sub hl [1] rfl)
            · have hf := it_f hf c6
              exact w35 o4.2 sRo H locs ls hf hP hD hS (lv_sub hl [0] rfl)
          · have hf := it_t hf c5
            refine lv_iconst (v := (0 : Int32)) hx hb dX7_readWay_27 (by decide) ?_
            have e9 := Option.some.inj hf
            rw [hQ]
            exact W.zret (v := (0 : Int32)) hx hb hr rfl (fun t ht hW => ⟨⟨(0 : Int32), (o4.2, sRo), rfl, ⟨pr1 e9, pr2 e9⟩, ⟨by rw [ht]; exact hP, va_K.moved hW.alike hK, hD⟩⟩, hS.F ht⟩) hS.2.2 dX7_readWay_28
  have hen : entryFrame m args 5 = entryFrame m (([.ref (hRd 99)] : List Value).toArray) 5 := by rw [hargs]
  have hl := lv_entry ([.ref (hRd 99)]) (n := 5) (Nat.le_of_ble_eq_true rfl)
  rw [hen, lg_entry_eq]
  generalize (lg_sl ([.ref (hRd 99)]) ++ List.replicate (5 - (lg_sl ([.ref (hRd 99)])).length) Slot.unset).toArray = ls at hl ⊢
  have hl : lv_has ls 5 [(0, .ref (hRd 99))] := hl
  unfold f_X7_readWay at hf
  obtain ⟨H, hHe⟩ : ∃ z, z = s.heap := ⟨_, rfl⟩
  obtain ⟨locs, hLe⟩ : ∃ z : List Loc, z = [] := ⟨_, rfl⟩
  rw [← hLe]
  have hS : va_S A s.heap H locs := by rw [hHe, hLe]; exact hS
  have hP : va_P D vwCl (wRd K hRd aTp (hRo 99) sRd ++ wAB K aTp nTp fTp ++ wRo K hRo sRo) H := by rw [hHe]; exact hP
  have hgo : W p l e (headSpec wz_X7_readWay r_X7_readWay).room s m args below meth c H locs 0 0 Q (F0 m 0 ls []) := by
    refine lv_iconst (v := (0 : Int32)) hx hb dX7_readWay_0 (by decide) ?_
    refine lv_istore_n (lv' := [(1, .int (0 : Int32)), (0, .ref (hRd 99))]) hx hb dX7_readWay_1 rfl hl (by decide) rfl (fun ls hl => ?_)
    refine lv_iconst (v := (1 : Int32)) hx hb dX7_readWay_2 (by decide) ?_
    refine lv_istore_n (lv' := [(2, .int (1 : Int32)), (1, .int (0 : Int32)), (0, .ref (hRd 99))]) hx hb dX7_readWay_3 rfl hl (by decide) rfl (fun ls hl => ?_)
    refine lv_iconst (v := (0 : Int32)) hx hb dX7_readWay_4 (by decide) ?_
    refine lv_istore_n (lv' := [(3, .int (0 : Int32)), (2, .int (1 : Int32)), (1, .int (0 : Int32)), (0, .ref (hRd 99))]) hx hb dX7_readWay_5 rfl hl (by decide) rfl (fun ls hl => ?_)
    exact w6 F (0 : Int32) (1 : Int32) (0 : Int32) sRd sRo H locs ls hf hP hD hS (lv_sub hl [3, 2, 1, 0] rfl)
  rw [hHe] at hgo
  exact hgo

def wz_X7_readReceipt : List Cond := .code yX7_readReceipt cX7_readReceipt 2 (some .boolean) :: wsL_law
abbrev r_X7_readReceipt : Room := { frames := 7, cells := 0, slots := 0, locals := 147 }
set_option maxHeartbeats 4000000 in
set_option maxRecDepth 100000 in
theorem c_X7_readReceipt (l : Launch) (D : va_G) (K : Nat → ClassId) (F : Nat) (adK adV : Nat → Nat) (tF : Nat) (hRd : Nat → Nat) (aTp nTp : Nat) (hRo : Nat → Nat) (sz : Nat) (sRd : MS) (fTp : (Nat → Int32)) (sRo : MS) (res : Int32 × MS × MS) (hf : f_X7_readReceipt F nTp fTp sRd sRo = some res) : Met l yX7_readReceipt wz_X7_readReceipt r_X7_readReceipt (va_Pc [.ref (hRd 99)] (PWz D K adK adV tF (wRd K hRd aTp (hRo 99) sRd ++ wAB K aTp nTp fTp ++ wRo K hRo sRo) sz)) (va_Qi (fun r u => r = res.1 ∧ u = res.2) (fun u t => BW D K (va_A (wRd K hRd aTp (hRo 99) sRd ++ wAB K aTp nTp fTp ++ wRo K hRo sRo) sz) (wRd K hRd aTp (hRo 99) u.1 ++ wAB K aTp nTp fTp ++ wRo K hRo u.2) t) (va_A (wRd K hRd aTp (hRo 99) sRd ++ wAB K aTp nTp fTp ++ wRo K hRo sRo) sz)) 0 0 (va_A (wRd K hRd aTp (hRo 99) sRd ++ wAB K aTp nTp fTp ++ wRo K hRo sRo) sz) := by
  refine Met.ofW (cc := cX7_readReceipt) (maxL := 2) (ret := (some .boolean)) (by decide) rfl ?_
  intro p e s m args below meth c s₁ B hml hv
  obtain ⟨hargs, ⟨hsz, hP, hK, hD0⟩, hZ⟩ := hv
  have hx := B.exec
  have hb := B.bytes
  have hr := B.returns
  have hts := atoms_spec (ws := wz_X7_readReceipt) B.pre
  have htl : ∀ w ∈ wsL_law, w.before args s = true := fun w h => hts w (List.mem_cons_of_mem _ h)
  have hown : s.vm.findClass RX7 = some m.cls := findClass_of_methodNamed B.named
  have hlocks := B.notSynchronized
  subst hsz
  have hD := hD0.self (sz := s.heap.size)
  generalize hAe : va_A (wRd K hRd aTp (hRo 99) sRd ++ wAB K aTp nTp fTp ++ wRo K hRo sRo) s.heap.size = A at hD hZ ⊢
  have hA : ∀ q : Nat, s.heap.size ≤ q → A q := fun q h => by rw [← hAe]; exact Or.inr h
  have hS : va_S A s.heap s.heap [] := va_S.rf
  have iX7 : ∀ w ∈ wsX70, w ∈ wz_X7_readReceipt := fun w h => List.mem_cons_of_mem _ (inlX7 w h)
  have iX9 : ∀ w ∈ wsX90, w ∈ wz_X7_readReceipt := fun w h => List.mem_cons_of_mem _ (inlX9 w h)
  suffices hgo : ∀ Q : State → Prop, Q = MQ below (va_Qi (fun r u => r = res.1 ∧ u = res.2) (fun u t => BW D K A (wRd K hRd aTp (hRo 99) u.1 ++ wAB K aTp nTp fTp ++ wRo K hRo u.2) t) A) args s 0 0 A → W p l e (headSpec wz_X7_readReceipt r_X7_readReceipt).room s m args below meth c s.heap [] 0 0 Q (entryFrame m args 2) from hgo _ rfl
  intro Q hQ
  have hen : entryFrame m args 2 = entryFrame m (([.ref (hRd 99)] : List Value).toArray) 2 := by rw [hargs]
  have hl := lv_entry ([.ref (hRd 99)]) (n := 2) (Nat.le_of_ble_eq_true rfl)
  rw [hen, lg_entry_eq]
  generalize (lg_sl ([.ref (hRd 99)]) ++ List.replicate (2 - (lg_sl ([.ref (hRd 99)])).length) Slot.unset).toArray = ls at hl ⊢
  have hl : lv_has ls 2 [(0, .ref (hRd 99))] := hl
  unfold f_X7_readReceipt at hf
  obtain ⟨H, hHe⟩ : ∃ z, z = s.heap := ⟨_, rfl⟩
  obtain ⟨locs, hLe⟩ : ∃ z : List Loc, z = [] := ⟨_, rfl⟩
  rw [← hLe]
  have hS : va_S A s.heap H locs := by rw [hHe, hLe]; exact hS
  have hP : va_P D vwCl (wRd K hRd aTp (hRo 99) sRd ++ wAB K aTp nTp fTp ++ wRo K hRo sRo) H := by rw [hHe]; exact hP
  have hgo : W p l e (headSpec wz_X7_readReceipt r_X7_readReceipt).room s m args below meth c H locs 0 0 Q (F0 m 0 ls []) := by
    refine lv_aload_n hx hb dX7_readReceipt_0 rfl (lv_at hl 0 rfl) ?_
    obtain ⟨o1, go1, hf⟩ := bd_s hf
    refine rk_Vv (wn := wRd K hRd aTp (hRo 99) o1 ++ wAB K aTp nTp fTp ++ wRo K hRo sRo) [wRd K hRd aTp (hRo 99) sRd, wAB K aTp nTp fTp, wRo K hRo sRo] [wRd K hRd aTp (hRo 99) sRd, wAB K aTp nTp fTp] [wRd K hRd aTp (hRo 99) o1, wAB K aTp nTp fTp] [wRd K hRd aTp (hRo 99) o1, wAB K aTp nTp fTp, wRo K hRo sRo] (As := []) (rest := []) ⟨hx, hb, hml, hown, hts⟩ (c_X7_lookOn l D K F hRd (hRo 99) aTp nTp H.size sRd fTp o1 go1) (cwV 0 hts (gcV_X7_lookOn (mB9 _ (List.mem_of_getElem? (i := 2) rfl))) rfl rfl rfl hdV_X7_lookOn ⟨Nat.le_of_ble_eq_true rfl, Nat.le_of_ble_eq_true rfl⟩) hK hP hD hS hA [0, 1] (fl3 _ _ _) rfl (by decide) (fl2 _ _) (fl2 _ _) rfl rfl (fl3 _ _ _) (va_recv hK hP (ci := 6) (q0 := 0) rfl (rwl (rwl o_Rd))) rfl hl.1 rfl (Nat.le_of_ble_eq_true rfl) dX7_readReceipt_1 ⟨Nat.zero_le _, Nat.zero_le _⟩ (fun H locs hP hD hS => ?_)
    have hP : va_P D vwCl (wRd K hRd aTp (hRo 99) o1 ++ wAB K aTp nTp fTp ++ wRo K hRo sRo) H := hP
    have hD : va_D A (wRd K hRd aTp (hRo 99) o1 ++ wAB K aTp nTp fTp ++ wRo K hRo sRo) := hD
    refine lv_aload_n hx hb dX7_readReceipt_4 rfl (lv_at hl 0 rfl) ?_
    obtain ⟨o2, go2, hf⟩ := bd_s hf
    refine rs_Viz (As := []) (rest := []) ⟨hx, hb, hml, hown, hts⟩ (c_X7_isToldName l D K F adK adV tF hRd aTp nTp hRo H.size o1 fTp sRo o2 go2) (cwV 0 hts (gcV_X7_isToldName (mB14 _ (List.mem_of_getElem? (i := 10) rfl))) rfl rfl rfl hdV_X7_isToldName ⟨Nat.le_of_ble_eq_true rfl, Nat.le_of_ble_eq_true rfl⟩) hK hP hD hS hA hZ (va_recv hK hP (ci := 6) (q0 := 0) rfl (rwl (rwl o_Rd))) rfl hl.1 rfl (Nat.le_of_ble_eq_true rfl) dX7_readReceipt_5 ⟨Nat.zero_le _, Nat.zero_le _⟩ (fun H locs hP hD hS => ?_)
    have hP : va_P D vwCl (wRd K hRd aTp (hRo 99) o2.2 ++ wAB K aTp nTp fTp ++ wRo K hRo sRo) H := hP
    have hD : va_D A (wRd K hRd aTp (hRo 99) o2.2 ++ wAB K aTp nTp fTp ++ wRo K hRo sRo) := hD
    refine lv_if_ne (tgt := 13) hx hb dX7_readReceipt_8 (by decide) (fun c3 => ?_) (fun c3 => ?_)
    · have hf := it_f hf c3
      refine lv_aload_n hx hb dX7_readReceipt_13 rfl (lv_at hl 0 rfl) ?_
      obtain ⟨o4, go4, hf⟩ := bd_s hf
      refine ro_Vi (As := []) (rest := []) ⟨hx, hb, hml, hown, hts⟩ (c_X7_placeNamed l D K F hRd aTp nTp hRo o2.2 fTp sRo o4 go4) (cwV 0 hts (gcV_X7_placeNamed (mB13 _ (List.mem_of_getElem? (i := 22) rfl))) rfl rfl rfl hdV_X7_placeNamed ⟨Nat.le_of_ble_eq_true rfl, Nat.le_of_ble_eq_true rfl⟩) hK hP hS hP (va_recv hK hP (ci := 6) (q0 := 0) rfl (rwl (rwl o_Rd))) rfl hl.1 rfl (Nat.le_of_ble_eq_true rfl) dX7_readReceipt_14 ⟨Nat.zero_le _, Nat.zero_le _⟩ (fun H locs hP hS => ?_)
      refine lv_istore_n (lv' := [(1, .int o4), (0, .ref (hRd 99))]) hx hb dX7_readReceipt_17 rfl hl (by decide) rfl (fun ls hl => ?_)
      refine lv_aload_n hx hb dX7_readReceipt_18 rfl (lv_at hl 1 rfl) ?_
      refine va_get (D := D) (ci := 6) (v := .ref (hRo 99)) (C := RX7) (T := TX7) (N := 11) hx hb hts iX7 hown hK hP 0 (rwl (rwl o_Rd)) rfl 4 (by decide) (htl _ (mB3 _ (List.mem_of_getElem? (i := 18) rfl))) (fun _ h9 => h9) rfl dX7_readReceipt_19 ?_
      refine va_get (D := D) (ci := 8) (v := .ref (hRo 12)) (C := RX9) (T := TX9) (N := 19) hx hb hts iX9 hown hK hP ((3 + 1) + 0) (rwr (lnA ln_Rd ln_AB) o_Ro) rfl 12 (by decide) (htl _ (mB15 _ (List.mem_of_getElem? (i := 6) rfl))) (fun _ h9 => h9) rfl dX7_readReceipt_22 ?_
      refine lv_iload_n hx hb dX7_readReceipt_25 rfl (lv_at hl 0 rfl) ?_
      obtain ⟨g5, hf⟩ := gd_s hf
      refine va_iald hx hb hK hP ((3 + 1) + 3) 0 (f := sRo.2.2.1 12) (rwr (lnA ln_Rd ln_AB) a_Ro_12) rfl (vpb_in g5) dX7_readReceipt_26 ?_
      refine lv_topi (fun v6 ev6 => ?_)
      have hf := lz_s hf v6 ev6
      refine lv_if_ne (tgt := 37) hx hb dX7_readReceipt_27 (by decide) (fun c7 => ?_) (fun c7 => ?_)
      · have hf := it_f hf c7
        refine lv_aload_n hx hb dX7_readReceipt_37 rfl (lv_at hl 1 rfl) ?_
        obtain ⟨o8, go8, hf⟩ := bd_s hf
        refine rk_Vv (wn := wRd K hRd aTp (hRo 99) o8 ++ wAB K aTp nTp fTp ++ wRo K hRo sRo) [wRd K hRd aTp (hRo 99) o2.2, wAB K aTp nTp fTp, wRo K hRo sRo] [wRd K hRd aTp (hRo 99) o2.2, wAB K aTp nTp fTp] [wRd K hRd aTp (hRo 99) o8, wAB K aTp nTp fTp] [wRd K hRd aTp (hRo 99) o8, wAB K aTp nTp fTp, wRo K hRo sRo] (As := []) (rest := []) ⟨hx, hb, hml, hown, hts⟩ (c_X7_lookOn l D K F hRd (hRo 99) aTp nTp H.size o2.2 fTp o8 go8) (cwV 0 hts (gcV_X7_lookOn (mB9 _ (List.mem_of_getElem? (i := 2) rfl))) rfl rfl rfl hdV_X7_lookOn ⟨Nat.le_of_ble_eq_true rfl, Nat.le_of_ble_eq_true rfl⟩) hK hP hD hS hA [0, 1] (fl3 _ _ _) rfl (by decide) (fl2 _ _) (fl2 _ _) rfl rfl (fl3 _ _ _) (va_recv hK hP (ci := 6) (q0 := 0) rfl (rwl (rwl o_Rd))) rfl hl.1 rfl (Nat.le_of_ble_eq_true rfl) dX7_readReceipt_38 ⟨Nat.zero_le _, Nat.zero_le _⟩ (fun H locs hP hD hS => ?_)
        have hP : va_P D vwCl (wRd K hRd aTp (hRo 99) o8 ++ wAB K aTp nTp fTp ++ wRo K hRo sRo) H := hP
        have hD : va_D A (wRd K hRd aTp (hRo 99) o8 ++ wAB K aTp nTp fTp ++ wRo K hRo sRo) := hD
        refine lv_aload_n hx hb dX7_readReceipt_41 rfl (lv_at hl 1 rfl) ?_
        refine lv_iconst (v := (1 : Int32)) hx hb dX7_readReceipt_42 (by decide) ?_
        refine lv_sipush (v := (999 : Int32)) hx hb dX7_readReceipt_43 (by decide) ?_
        obtain ⟨o9, go9, hf⟩ := bd_s hf
        refine rk_Vi (wn := wRd K hRd aTp (hRo 99) o9.2 ++ wAB K aTp nTp fTp ++ wRo K hRo sRo) [wRd K hRd aTp (hRo 99) o8, wAB K aTp nTp fTp, wRo K hRo sRo] [wRd K hRd aTp (hRo 99) o8, wAB K aTp nTp fTp] [wRd K hRd aTp (hRo 99) o9.2, wAB K aTp nTp fTp] [wRd K hRd aTp (hRo 99) o9.2, wAB K aTp nTp fTp, wRo K hRo sRo] (As := [.int (1 : Int32), .int (999 : Int32)]) (rest := []) ⟨hx, hb, hml, hown, hts⟩ (c_X7_passWhole l D K F hRd (hRo 99) aTp nTp H.size o8 fTp (1 : Int32) (999 : Int32) o9 go9) (cwV 2 hts (gcV_X7_passWhole (mB13 _ (List.mem_of_getElem? (i := 2) rfl))) rfl rfl rfl hdV_X7_passWhole ⟨Nat.le_of_ble_eq_true rfl, Nat.le_of_ble_eq_true rfl⟩) hK hP hD hS hA [0, 1] (fl3 _ _ _) rfl (by decide) (fl2 _ _) (fl2 _ _) rfl rfl (fl3 _ _ _) (va_recv hK hP (ci := 6) (q0 := 0) rfl (rwl (rwl o_Rd))) rfl hl.1 rfl (Nat.le_of_ble_eq_true rfl) dX7_readReceipt_46 ⟨Nat.zero_le _, Nat.zero_le _⟩ (fun H locs hP hD hS => ?_)
        have hP : va_P D vwCl (wRd K hRd aTp (hRo 99) o9.2 ++ wAB K aTp nTp fTp ++ wRo K hRo sRo) H := hP
        have hD : va_D A (wRd K hRd aTp (hRo 99) o9.2 ++ wAB K aTp nTp fTp ++ wRo K hRo sRo) := hD
        refine lv_if_ne (tgt := 54) hx hb dX7_readReceipt_49 (by decide) (fun c10 => ?_) (fun c10 => ?_)
        · have hf := it_f hf c10
          refine lv_aload_n hx hb dX7_readReceipt_54 rfl (lv_at hl 1 rfl) ?_
          refine va_get (D := D) (ci := 6) (v := .ref (hRo 99)) (C := RX7) (T := TX7) (N := 11) hx hb hts iX7 hown hK hP 0 (rwl (rwl o_Rd)) rfl 4 (by decide) (htl _ (mB3 _ (List.mem_of_getElem? (i := 18) rfl))) (fun _ h9 => h9) rfl dX7_readReceipt_55 ?_
          refine va_get (D := D) (ci := 8) (v := .ref (hRo 17)) (C := RX9) (T := TX9) (N := 19) hx hb hts iX9 hown hK hP ((3 + 1) + 0) (rwr (lnA ln_Rd ln_AB) o_Ro) rfl 17 (by decide) (htl _ (mB16 _ (List.mem_of_getElem? (i := 1) rfl))) (fun _ h9 => h9) rfl dX7_readReceipt_58 ?_
          refine lv_aload_n hx hb dX7_readReceipt_61 rfl (lv_at hl 1 rfl) ?_
          refine va_get (D := D) (ci := 6) (v := .ref (hRo 99)) (C := RX7) (T := TX7) (N := 11) hx hb hts iX7 hown hK hP 0 (rwl (rwl o_Rd)) rfl 4 (by decide) (htl _ (mB3 _ (List.mem_of_getElem? (i := 18) rfl))) (fun _ h9 => h9) rfl dX7_readReceipt_62 ?_
          refine va_get (D := D) (ci := 8) (v := .int (sRo.1 9)) (C := RX9) (T := TX9) (N := 19) hx hb hts iX9 hown hK hP ((3 + 1) + 0) (rwr (lnA ln_Rd ln_AB) o_Ro) rfl 9 (by decide) (htl _ (mB9 _ (List.mem_of_getElem? (i := 23) rfl))) (fun _ h9 => h9) rfl dX7_readReceipt_65 ?_
          refine lv_iload_n hx hb dX7_readReceipt_68 rfl (lv_at hl 0 rfl) ?_
          obtain ⟨g11, hf⟩ := gd_s hf
          refine va_iast hx hb hK hP hD hS ((3 + 1) + 8) 0 (f := sRo.2.2.1 17) (rwr (lnA ln_Rd ln_AB) a_Ro_17) rfl (vpb_in g11) dX7_readReceipt_69 (fun H locs hP hD hS => ?_)
          have hP := cvP (str (lnA ln_Rd ln_AB) sa_Ro_17) hP
          have hD := cvD (str (lnA ln_Rd ln_AB) sa_Ro_17) hD
          obtain ⟨s12, es12⟩ : ∃ z, z = sA sRo 17 ((sRo.1 9).toNatClampNeg) o4 := ⟨_, rfl⟩
          have hP : va_P D vwCl (wRd K hRd aTp (hRo 99) o9.2 ++ wAB K aTp nTp fTp ++ wRo K hRo s12) H := by rw [es12]; exact hP
          have hD : va_D A (wRd K hRd aTp (hRo 99) o9.2 ++ wAB K aTp nTp fTp ++ wRo K hRo s12) := by rw [es12]; exact hD
          have hf := lz_s hf s12 es12
          refine lv_aload_n hx hb dX7_readReceipt_70 rfl (lv_at hl 1 rfl) ?_
          refine va_get (D := D) (ci := 6) (v := .ref (hRo 99)) (C := RX7) (T := TX7) (N := 11) hx hb hts iX7 hown hK hP 0 (rwl (rwl o_Rd)) rfl 4 (by decide) (htl _ (mB3 _ (List.mem_of_getElem? (i := 18) rfl))) (fun _ h9 => h9) rfl dX7_readReceipt_71 ?_
          refine va_get (D := D) (ci := 8) (v := .ref (hRo 18)) (C := RX9) (T := TX9) (N := 19) hx hb hts iX9 hown hK hP ((3 + 1) + 0) (rwr (lnA ln_Rd ln_AB) o_Ro) rfl 18 (by decide) (htl _ (mB16 _ (List.mem_of_getElem? (i := 2) rfl))) (fun _ h9 => h9) rfl dX7_readReceipt_74 ?_
          refine lv_aload_n hx hb dX7_readReceipt_77 rfl (lv_at hl 1 rfl) ?_
          refine va_get (D := D) (ci := 6) (v := .ref (hRo 99)) (C := RX7) (T := TX7) (N := 11) hx hb hts iX7 hown hK hP 0 (rwl (rwl o_Rd)) rfl 4 (by decide) (htl _ (mB3 _ (List.mem_of_getElem? (i := 18) rfl))) (fun _ h9 => h9) rfl dX7_readReceipt_78 ?_
          refine va_get (D := D) (ci := 8) (v := .int (s12.1 9)) (C := RX9) (T := TX9) (N := 19) hx hb hts iX9 hown hK hP ((3 + 1) + 0) (rwr (lnA ln_Rd ln_AB) o_Ro) rfl 9 (by decide) (htl _ (mB9 _ (List.mem_of_getElem? (i := 23) rfl))) (fun _ h9 => h9) rfl dX7_readReceipt_81 ?_
          refine lv_aload_n hx hb dX7_readReceipt_84 rfl (lv_at hl 1 rfl) ?_
          refine va_get (D := D) (ci := 6) (v := .int (o9.2.1 8)) (C := RX7) (T := TX7) (N := 11) hx hb hts iX7 hown hK hP 0 (rwl (rwl o_Rd)) rfl 8 (by decide) (htl _ (mB12 _ (List.mem_of_getElem? (i := 17) rfl))) (fun _ h9 => h9) rfl dX7_readReceipt_85 ?_
          obtain ⟨g13, hf⟩ := gd_s hf
          refine va_iast hx hb hK hP hD hS ((3 + 1) + 9) 0 (f := s12.2.2.1 18) (rwr (lnA ln_Rd ln_AB) a_Ro_18) rfl (vpb_in g13) dX7_readReceipt_88 (fun H locs hP hD hS => ?_)
          have hP := cvP (str (lnA ln_Rd ln_AB) sa_Ro_18) hP
          have hD := cvD (str (lnA ln_Rd ln_AB) sa_Ro_18) hD
          obtain ⟨s14, es14⟩ : ∃ z, z = sA s12 18 ((s12.1 9).toNatClampNeg) (o9.2.1 8) := ⟨_, rfl⟩
          have hP : va_P D vwCl (wRd K hRd aTp (hRo 99) o9.2 ++ wAB K aTp nTp fTp ++ wRo K hRo s14) H := by rw [es14]; exact hP
          have hD : va_D A (wRd K hRd aTp (hRo 99) o9.2 ++ wAB K aTp nTp fTp ++ wRo K hRo s14) := by rw [es14]; exact hD
          have hf := lz_s hf s14 es14
          refine lv_aload_n hx hb dX7_readReceipt_89 rfl (lv_at hl 1 rfl) ?_
          refine va_get (D := D) (ci := 6) (v := .ref (hRo 99)) (C := RX7) (T := TX7) (N := 11) hx hb hts iX7 hown hK hP 0 (rwl (rwl o_Rd)) rfl 4 (by decide) (htl _ (mB3 _ (List.mem_of_getElem? (i := 18) rfl))) (fun _ h9 => h9) rfl dX7_readReceipt_90 ?_
          refine lv_dup hx hb dX7_readReceipt_93 rfl ?_
          refine va_get (D := D) (ci := 8) (v := .int (s14.1 9)) (C := RX9) (T := TX9) (N := 19) hx hb hts iX9 hown hK hP ((3 + 1) + 0) (rwr (lnA ln_Rd ln_AB) o_Ro) rfl 9 (by decide) (htl _ (mB9 _ (List.mem_of_getElem? (i := 23) rfl))) (fun _ h9 => h9) rfl dX7_readReceipt_94 ?_
          refine lv_iconst (v := (1 : Int32)) hx hb dX7_readReceipt_97 (by decide) ?_
          refine lv_iadd hx hb dX7_readReceipt_98 ?_
          refine lv_topi (fun v15 ev15 => ?_)
          have hf := lz_s hf v15 ev15
          refine va_put (D := D) (ci := 8) (v := .int v15) (ty := .int) (C := RX9) (T := TX9) (N := 19) hx hb hts iX9 tyX9 tyX9_ok nmX9 hown hK hP hD hS ((3 + 1) + 0) (rwr (lnA ln_Rd ln_AB) o_Ro) rfl 9 (by decide) (htl _ (mB9 _ (List.mem_of_getElem? (i := 23) rfl))) (fun _ h9 => h9) rfl (by decide +kernel) rfl rfl (Nat.le_of_ble_eq_true rfl) dX7_readReceipt_99 (fun H locs hP hD hS => ?_)
          have hP := cvP (str (lnA ln_Rd ln_AB) si_Ro_9) hP
          have hD := cvD (str (lnA ln_Rd ln_AB) si_Ro_9) hD
          obtain ⟨s16, es16⟩ : ∃ z, z = sI s14 9 v15 := ⟨_, rfl⟩
          have hP : va_P D vwCl (wRd K hRd aTp (hRo 99) o9.2 ++ wAB K aTp nTp fTp ++ wRo K hRo s16) H := by rw [es16]; exact hP
          have hD : va_D A (wRd K hRd aTp (hRo 99) o9.2 ++ wAB K aTp nTp fTp ++ wRo K hRo s16) := by rw [es16]; exact hD
          have hf := lz_s hf s16 es16
          refine lv_iconst (v := (1 : Int32)) hx hb dX7_readReceipt_102 (by decide) ?_
          have e9 := Option.some.inj hf
          rw [hQ]
          exact W.zret (v := (1 : Int32)) hx hb hr rfl (fun t ht hW => ⟨⟨(1 : Int32), (o9.2, s16), rfl, ⟨pr1 e9, pr2 e9⟩, ⟨by rw [ht]; exact hP, va_K.moved hW.alike hK, hD⟩⟩, hS.F ht⟩) hS.2.2 dX7_readReceipt_103
        · have hf := it_t hf c10
          refine lv_iconst (v := (0 : Int32)) hx hb dX7_readReceipt_52 (by decide) ?_
          have e9 := Option.some.inj hf
          rw [hQ]
          exact W.zret (v := (0 : Int32)) hx hb hr rfl (fun t ht hW => ⟨⟨(0 : Int32), (o9.2, sRo), rfl, ⟨pr1 e9, pr2 e9⟩, ⟨by rw [ht]; exact hP, va_K.moved hW.alike hK, hD⟩⟩, hS.F ht⟩) hS.2.2 dX7_readReceipt_53
      · have hf := it_t hf c7
        refine lv_aload_n hx hb dX7_readReceipt_30 rfl (lv_at hl 1 rfl) ?_
        refine lv_bipush (v := (7 : Int32)) hx hb dX7_readReceipt_31 (by decide) ?_
        obtain ⟨o17, go17, hf⟩ := bd_s hf
        refine rk_Vi (wn := wRd K hRd aTp (hRo 99) o17.2 ++ wAB K aTp nTp fTp ++ wRo K hRo sRo) [wRd K hRd aTp (hRo 99) o2.2, wAB K aTp nTp fTp, wRo K hRo sRo] [wRd K hRd aTp (hRo 99) o2.2] [wRd K hRd aTp (hRo 99) o17.2] [wRd K hRd aTp (hRo 99) o17.2, wAB K aTp nTp fTp, wRo K hRo sRo] (As := [.int (7 : Int32)]) (rest := []) ⟨hx, hb, hml, hown, hts⟩ (c_X7_failWith l D K F hRd aTp (hRo 99) H.size o2.2 (7 : Int32) o17 go17) (cwV 1 hts (gcV_X7_failWith (mB12 _ (List.mem_of_getElem? (i := 5) rfl))) rfl rfl rfl hdV_X7_failWith ⟨Nat.le_of_ble_eq_true rfl, Nat.le_of_ble_eq_true rfl⟩) hK hP hD hS hA [0] (fl3 _ _ _) rfl (by decide) (fl1 _) (fl1 _) rfl rfl (fl3 _ _ _) (va_recv hK hP (ci := 6) (q0 := 0) rfl (rwl (rwl o_Rd))) rfl hl.1 rfl (Nat.le_of_ble_eq_true rfl) dX7_readReceipt_33 ⟨Nat.zero_le _, Nat.zero_le _⟩ (fun H locs hP hD hS => ?_)
        have hP : va_P D vwCl (wRd K hRd aTp (hRo 99) o17.2 ++ wAB K aTp nTp fTp ++ wRo K hRo sRo) H := hP
        have hD : va_D A (wRd K hRd aTp (hRo 99) o17.2 ++ wAB K aTp nTp fTp ++ wRo K hRo sRo) := hD
        obtain ⟨g18, hf⟩ := gd_s hf
        have e9 := Option.some.inj hf
        rw [hQ]
        exact W.zret (v := o17.1) hx hb hr (bob_s g18) (fun t ht hW => ⟨⟨o17.1, (o17.2, sRo), rfl, ⟨pr1 e9, pr2 e9⟩, ⟨by rw [ht]; exact hP, va_K.moved hW.alike hK, hD⟩⟩, hS.F ht⟩) hS.2.2 dX7_readReceipt_36
    · have hf := it_t hf c3
      refine lv_iconst (v := (0 : Int32)) hx hb dX7_readReceipt_11 (by decide) ?_
      have e9 := Option.some.inj hf
      rw [hQ]
      exact W.zret (v := (0 : Int32)) hx hb hr rfl (fun t ht hW => ⟨⟨(0 : Int32), (o2.2, sRo), rfl, ⟨pr1 e9, pr2 e9⟩, ⟨by rw [ht]; exact hP, va_K.moved hW.alike hK, hD⟩⟩, hS.F ht⟩) hS.2.2 dX7_readReceipt_12
  rw [hHe] at hgo
  exact hgo
