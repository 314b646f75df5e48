def wz_X7_runLength : List Cond := .code yX7_runLength cX7_runLength 4 (some .int) :: wsL_law
abbrev r_X7_runLength : Room := { frames := 0, cells := 0, slots := 0, locals := 0 }
set_option maxHeartbeats 4000000 in
set_option maxRecDepth 100000 in
theorem c_X7_runLength (l : Launch) (D : va_G) (K : Nat → ClassId) (F : Nat) (hRd : Nat → Nat) (rRd4 : Nat) (aTp nTp : Nat) (sRd : MS) (fTp : (Nat → Int32)) (p1 : Int32) (p2 : Int32) (res : Int32) (hf : f_X7_runLength F sRd nTp fTp p1 p2 = some res) : Met l yX7_runLength wz_X7_runLength r_X7_runLength (va_Pc [.ref (hRd 99), .int p1, .int p2] (PR D K (wRd K hRd aTp rRd4 sRd ++ [(aTp, .inl (K 2, nTp, .inl fTp))]))) (va_Qi (fun r (_ : Unit) => r = res) BN nOne) 0 0 nOne := by
  refine Met.ofW (cc := cX7_runLength) (maxL := 4) (ret := (some .int)) (by decide) rfl ?_
  intro p e s m args below meth c s₁ B hml hv
  obtain ⟨hargs, hP, hK⟩ := hv
  have hx := B.exec
  have hb := B.bytes
  have hr := B.returns
  have hts := atoms_spec (ws := wz_X7_runLength) B.pre
  have htl : ∀ w ∈ wsL_law, w.before args s = true := fun w h => hts w (List.mem_cons_of_mem _ h)
  have hown : s.vm.findClass RX7 = some m.cls := findClass_of_methodNamed B.named
  have hlocks := B.notSynchronized
  have hS : va_S nOne s.heap s.heap [] := va_S.rf
  have iX7 : ∀ w ∈ wsX70, w ∈ wz_X7_runLength := fun w h => List.mem_cons_of_mem _ (inlX7 w h)
  suffices hgo : ∀ Q : State → Prop, Q = MQ below (va_Qi (fun r (_ : Unit) => r = res) BN nOne) args s 0 0 nOne → W p l e (headSpec wz_X7_runLength r_X7_runLength).room s m args below meth c s.heap [] 0 0 Q (entryFrame m args 4) from hgo _ rfl
  intro Q hQ
  have w39 : ∀ (x3 : Int32), ∀ (H : Heap) (locs : List Loc) (ls : Array Slot), f_X7_runLength_39 F sRd nTp fTp p1 p2 x3 = some res → va_P D vwCl (wRd K hRd aTp rRd4 sRd ++ [(aTp, .inl (K 2, nTp, .inl fTp))]) H → va_S nOne s.heap H locs → lv_has ls 4 [(0, .ref (hRd 99)), (3, .int x3)] → W p l e (headSpec wz_X7_runLength r_X7_runLength).room s m args below meth c H locs 0 0 Q (F0 m 39 ls []) := by
    intro x3 H locs ls hf hP hS hl
    unfold f_X7_runLength_39 at hf
    refine lv_iload_n hx hb dX7_runLength_39 rfl (lv_at hl 1 rfl) ?_
    refine lv_aload_n hx hb dX7_runLength_40 rfl (lv_at hl 0 rfl) ?_
    refine va_get (D := D) (ci := 6) (v := .int (sRd.1 6)) (C := RX7) (T := TX7) (N := 11) hx hb hts iX7 hown hK hP 0 rfl rfl 6 (by decide) (htl _ (mB9 _ (List.mem_of_getElem? (i := 6) rfl))) (fun _ h9 => h9) rfl dX7_runLength_41 ?_
    refine lv_isub hx hb dX7_runLength_44 ?_
    have e9 := Option.some.inj hf
    rw [hQ]
    exact W.iret (v := (x3 - (sRd.1 6))) hx hb hr (fun t ht hW => ⟨⟨(x3 - (sRd.1 6)), (), rfl, e9, trivial⟩, hS.F ht⟩) hS.2.2 dX7_runLength_45
  have w5 : ∀ (n : Nat), ∀ (x3 : Int32), ∀ (H : Heap) (locs : List Loc) (ls : Array Slot), f_X7_runLength_5 F sRd nTp fTp p1 p2 n x3 = some res → va_P D vwCl (wRd K hRd aTp rRd4 sRd ++ [(aTp, .inl (K 2, nTp, .inl fTp))]) H → va_S nOne s.heap H locs → lv_has ls 4 [(0, .ref (hRd 99)), (1, .int p1), (2, .int p2), (3, .int x3)] → W p l e (headSpec wz_X7_runLength r_X7_runLength).room s m args below meth c H locs 0 0 Q (F0 m 5 ls []) := by
    intro n
    induction n with
    | zero =>
      intro x3 H locs ls hf
      exact absurd (show none = some res from hf) (fun h => nomatch h)
    | succ n ih =>
      intro x3 H locs ls hf hP hS hl
      rw [f_X7_runLength_5] at hf
      refine lv_iload_n hx hb dX7_runLength_5 rfl (lv_at hl 3 rfl) ?_
      refine lv_aload_n hx hb dX7_runLength_6 rfl (lv_at hl 0 rfl) ?_
      refine va_get (D := D) (ci := 6) (v := .int (sRd.1 3)) (C := RX7) (T := TX7) (N := 11) hx hb hts iX7 hown hK hP 0 rfl rfl 3 (by decide) (htl _ (mB8 _ (List.mem_of_getElem? (i := 3) rfl))) (fun _ h9 => h9) rfl dX7_runLength_7 ?_
      refine lv_icmp_ge (tgt := 39) hx hb dX7_runLength_10 (by decide) (fun c1 => ?_) (fun c1 => ?_)
      · have hf := it_t hf c1
        exact w39 x3 H locs ls hf hP hS (lv_sub hl [0, 3] rfl)
      · have hf := it_f hf c1
        refine lv_aload_n hx hb dX7_runLength_13 rfl (lv_at hl 0 rfl) ?_
        refine va_get (D := D) (ci := 6) (v := .ref aTp) (C := RX7) (T := TX7) (N := 11) hx hb hts iX7 hown hK hP 0 rfl rfl 2 (by decide) (htl _ (mB3 _ (List.mem_of_getElem? (i := 16) rfl))) (fun _ h9 => h9) rfl dX7_runLength_14 ?_
        refine lv_iload_n hx hb dX7_runLength_17 rfl (lv_at hl 3 rfl) ?_
        obtain ⟨g2, hf⟩ := gd_s hf
        refine va_bald hx hb hK hP 3 2 (f := fTp) rfl rfl (vpb_in g2) dX7_runLength_18 ?_
        refine lv_iload_n hx hb dX7_runLength_19 rfl (lv_at hl 1 rfl) ?_
        refine lv_icmp_lt (tgt := 39) hx hb dX7_runLength_20 (by decide) (fun c3 => ?_) (fun c3 => ?_)
        · have hf := it_t hf c3
          exact w39 x3 H locs ls hf hP hS (lv_sub hl [0, 3] rfl)
        · have hf := it_f hf c3
          refine lv_aload_n hx hb dX7_runLength_23 rfl (lv_at hl 0 rfl) ?_
          refine va_get (D := D) (ci := 6) (v := .ref aTp) (C := RX7) (T := TX7) (N := 11) hx hb hts iX7 hown hK hP 0 rfl rfl 2 (by decide) (htl _ (mB3 _ (List.mem_of_getElem? (i := 16) rfl))) (fun _ h9 => h9) rfl dX7_runLength_24 ?_
          refine lv_iload_n hx hb dX7_runLength_27 rfl (lv_at hl 3 rfl) ?_
          obtain ⟨g4, hf⟩ := gd_s hf
          refine va_bald hx hb hK hP 3 2 (f := fTp) rfl rfl (vpb_in g4) dX7_runLength_28 ?_
          refine lv_iload_n hx hb dX7_runLength_29 rfl (lv_at hl 2 rfl) ?_
          refine lv_icmp_gt (tgt := 39) hx hb dX7_runLength_30 (by decide) (fun c5 => ?_) (fun c5 => ?_)
          · have hf := it_t hf c5
            exact w39 x3 H locs ls hf hP hS (lv_sub hl [0, 3] rfl)
          · have hf := it_f hf c5
            obtain ⟨v6, ev6⟩ : ∃ z : Int32, z = x3 + (1 : Int32) := ⟨_, rfl⟩
            have hf := lz_s hf v6 ev6
            refine lv_iinc (v := v6) (lv' := [(3, .int v6), (0, .ref (hRd 99)), (1, .int p1), (2, .int p2)]) hx hb dX7_runLength_33 hl (k := 3) rfl (by rw [ev6]; rfl) (by decide) rfl (fun ls hl => ?_)
            refine lv_goto (tgt := 5) hx hb dX7_runLength_36 (by decide) ?_
            exact ih v6 H locs ls hf hP hS (lv_sub hl [1, 2, 3, 0] rfl)
  have hen : entryFrame m args 4 = entryFrame m (([.ref (hRd 99), .int p1, .int p2] : List Value).toArray) 4 := by rw [hargs]
  have hl := lv_entry ([.ref (hRd 99), .int p1, .int p2]) (n := 4) (Nat.le_of_ble_eq_true rfl)
  rw [hen, lg_entry_eq]
  generalize (lg_sl ([.ref (hRd 99), .int p1, .int p2]) ++ List.replicate (4 - (lg_sl ([.ref (hRd 99), .int p1, .int p2])).length) Slot.unset).toArray = ls at hl ⊢
  have hl : lv_has ls 4 [(0, .ref (hRd 99)), (1, .int p1), (2, .int p2)] := hl
  unfold f_X7_runLength at hf
  obtain ⟨H, hHe⟩ : ∃ z, z = s.heap := ⟨_, rfl⟩
  obtain ⟨locs, hLe⟩ : ∃ z : List Loc, z = [] := ⟨_, rfl⟩
  rw [← hLe]
  have hS : va_S nOne s.heap H locs := by rw [hHe, hLe]; exact hS
  have hP : va_P D vwCl (wRd K hRd aTp rRd4 sRd ++ [(aTp, .inl (K 2, nTp, .inl fTp))]) H := by rw [hHe]; exact hP
  have hgo : W p l e (headSpec wz_X7_runLength r_X7_runLength).room s m args below meth c H locs 0 0 Q (F0 m 0 ls []) := by
    refine lv_aload_n hx hb dX7_runLength_0 rfl (lv_at hl 0 rfl) ?_
    refine va_get (D := D) (ci := 6) (v := .int (sRd.1 6)) (C := RX7) (T := TX7) (N := 11) hx hb hts iX7 hown hK hP 0 rfl rfl 6 (by decide) (htl _ (mB9 _ (List.mem_of_getElem? (i := 6) rfl))) (fun _ h9 => h9) rfl dX7_runLength_1 ?_
    refine lv_istore_n (lv' := [(3, .int (sRd.1 6)), (0, .ref (hRd 99)), (1, .int p1), (2, .int p2)]) hx hb dX7_runLength_4 rfl hl (by decide) rfl (fun ls hl => ?_)
    exact w5 F (sRd.1 6) H locs ls hf hP hS (lv_sub hl [1, 2, 3, 0] rfl)
  rw [hHe] at hgo
  exact hgo

theorem gcV_X7_runLength {T0 : Cond} {own : String} {i : Nat} (h : Cond.methodLink own i yX7_runLength ∈ wsL_law) : GoodIn (T0 :: wsL_law) (wsV own i RX7 yX7_runLength wz_X7_runLength) := gV h (mB9 _ (List.mem_of_getElem? (i := 12) rfl)) (mB9 _ (List.mem_of_getElem? (i := 13) rfl)) (mB1 _ (List.mem_of_getElem? (i := 22) rfl)) (mB9 _ (List.mem_of_getElem? (i := 14) rfl))
theorem hdV_X7_runLength : yX7_runLength.cls = RX7 ∧ yX7_runLength.cls ≠ "java/lang/invoke/MethodHandle" ∧ yX7_runLength.cls ≠ "java/lang/invoke/VarHandle" ∧ (parseMethodDescriptor yX7_runLength.desc).map (fun d => d.parameters.length) = some 2 := by decide +kernel
def wz_X7_lookOn : List Cond := .code yX7_lookOn cX7_lookOn 4 none :: wsL_law
abbrev r_X7_lookOn : Room := { frames := 1, cells := 0, slots := 0, locals := 23 }
set_option maxHeartbeats 4000000 in
set_option maxRecDepth 100000 in
theorem c_X7_lookOn (l : Launch) (D : va_G) (K : Nat → ClassId) (F : Nat) (hRd : Nat → Nat) (rRd4 : Nat) (aTp nTp : Nat) (sz : Nat) (sRd : MS) (fTp : (Nat → Int32)) (res : MS) (hf : f_X7_lookOn F nTp fTp sRd = some res) : Met l yX7_lookOn wz_X7_lookOn r_X7_lookOn (va_Pc [.ref (hRd 99)] (PW D K (wRd K hRd aTp rRd4 sRd ++ [(aTp, .inl (K 2, nTp, .inl fTp))]) sz)) (va_Qv (fun u => u = res) (fun u t => BW D K (va_A (wRd K hRd aTp rRd4 sRd ++ [(aTp, .inl (K 2, nTp, .inl fTp))]) sz) (wRd K hRd aTp rRd4 u ++ [(aTp, .inl (K 2, nTp, .inl fTp))]) t) (va_A (wRd K hRd aTp rRd4 sRd ++ [(aTp, .inl (K 2, nTp, .inl fTp))]) sz)) 0 0 (va_A (wRd K hRd aTp rRd4 sRd ++ [(aTp, .inl (K 2, nTp, .inl fTp))]) sz) := by
  refine Met.ofW (cc := cX7_lookOn) (maxL := 4) (ret := none) (by decide) rfl ?_
  intro p e s m args below meth c s₁ B hml hv
  obtain ⟨hargs, hsz, hP, hK, hD0⟩ := hv
  have hx := B.exec
  have hb := B.bytes
  have hr := B.returns
  have hts := atoms_spec (ws := wz_X7_lookOn) B.pre
  have htl : ∀ w ∈ wsL_law, w.before args s = true := fun w h => hts w (List.mem_cons_of_mem _ h)
  have hown : s.vm.findClass RX7 = some m.cls := findClass_of_methodNamed B.named
  have hlocks := B.notSynchronized
  subst hsz
  have hD := hD0.self (sz := s.heap.size)
  generalize hAe : va_A (wRd K hRd aTp rRd4 sRd ++ [(aTp, .inl (K 2, nTp, .inl fTp))]) s.heap.size = A at hD ⊢
  have hA : ∀ q : Nat, s.heap.size ≤ q → A q := fun q h => by rw [← hAe]; exact Or.inr h
  have hS : va_S A s.heap s.heap [] := va_S.rf
  have iX7 : ∀ w ∈ wsX70, w ∈ wz_X7_lookOn := fun w h => List.mem_cons_of_mem _ (inlX7 w h)
  suffices hgo : ∀ Q : State → Prop, Q = MQ below (va_Qv (fun u => u = res) (fun u t => BW D K A (wRd K hRd aTp rRd4 u ++ [(aTp, .inl (K 2, nTp, .inl fTp))]) t) A) args s 0 0 A → W p l e (headSpec wz_X7_lookOn r_X7_lookOn).room s m args below meth c s.heap [] 0 0 Q (entryFrame m args 4) from hgo _ rfl
  intro Q hQ
  have w192 : ∀ (y1 : Int32), ∀ (sRd : MS), ∀ (H : Heap) (locs : List Loc) (ls : Array Slot), f_X7_lookOn_192 F nTp fTp y1 sRd = some res → va_P D vwCl (wRd K hRd aTp rRd4 sRd ++ [(aTp, .inl (K 2, nTp, .inl fTp))]) H → va_D A (wRd K hRd aTp rRd4 sRd ++ [(aTp, .inl (K 2, nTp, .inl fTp))]) → va_S A s.heap H locs → lv_has ls 4 [] → W p l e (headSpec wz_X7_lookOn r_X7_lookOn).room s m args below meth c H locs 0 0 Q (F0 m 192 ls [.int y1, .ref (hRd 99)]) := by
    intro y1 sRd H locs ls hf hP hD hS hl
    unfold f_X7_lookOn_192 at hf
    refine va_put (D := D) (ci := 6) (v := .int y1) (ty := .int) (C := RX7) (T := TX7) (N := 11) hx hb hts iX7 tyX7 tyX7_ok nmX7 hown hK hP hD hS 0 rfl rfl 5 (by decide) (htl _ (mB8 _ (List.mem_of_getElem? (i := 7) rfl))) (fun _ h9 => h9) rfl (by decide +kernel) rfl rfl (Nat.le_of_ble_eq_true rfl) dX7_lookOn_192 (fun H locs hP hD hS => ?_)
    obtain ⟨s25, es25⟩ : ∃ z, z = sI sRd 5 y1 := ⟨_, rfl⟩
    have hP : va_P D vwCl (wRd K hRd aTp rRd4 s25 ++ [(aTp, .inl (K 2, nTp, .inl fTp))]) H := by rw [es25]; exact hP
    have hD : va_D A (wRd K hRd aTp rRd4 s25 ++ [(aTp, .inl (K 2, nTp, .inl fTp))]) := by rw [es25]; exact hD
    have hf := lz_s hf s25 es25
    have e9 := Option.some.inj hf
    rw [hQ]
    exact W.vret hx hb hr (fun t ht hW => ⟨⟨s25, rfl, e9, ⟨by rw [ht]; exact hP, va_K.moved hW.alike hK, hD⟩⟩, hS.F ht⟩) hS.2.2 dX7_lookOn_195
  have w176 : ∀ (y1 : Int32), ∀ (sRd : MS), ∀ (H : Heap) (locs : List Loc) (ls : Array Slot), f_X7_lookOn_176 F nTp fTp y1 sRd = some res → va_P D vwCl (wRd K hRd aTp rRd4 sRd ++ [(aTp, .inl (K 2, nTp, .inl fTp))]) H → va_D A (wRd K hRd aTp rRd4 sRd ++ [(aTp, .inl (K 2, nTp, .inl fTp))]) → va_S A s.heap H locs → lv_has ls 4 [] → W p l e (headSpec wz_X7_lookOn r_X7_lookOn).room s m args below meth c H locs 0 0 Q (F0 m 176 ls [.int y1, .ref (hRd 99)]) := by
    intro y1 sRd H locs ls hf hP hD hS hl
    unfold f_X7_lookOn_176 at hf
    refine va_put (D := D) (ci := 6) (v := .int y1) (ty := .int) (C := RX7) (T := TX7) (N := 11) hx hb hts iX7 tyX7 tyX7_ok nmX7 hown hK hP hD hS 0 rfl rfl 5 (by decide) (htl _ (mB8 _ (List.mem_of_getElem? (i := 7) rfl))) (fun _ h9 => h9) rfl (by decide +kernel) rfl rfl (Nat.le_of_ble_eq_true rfl) dX7_lookOn_176 (fun H locs hP hD hS => ?_)
    obtain ⟨s24, es24⟩ : ∃ z, z = sI sRd 5 y1 := ⟨_, rfl⟩
    have hP : va_P D vwCl (wRd K hRd aTp rRd4 s24 ++ [(aTp, .inl (K 2, nTp, .inl fTp))]) H := by rw [es24]; exact hP
    have hD : va_D A (wRd K hRd aTp rRd4 s24 ++ [(aTp, .inl (K 2, nTp, .inl fTp))]) := by rw [es24]; exact hD
    have hf := lz_s hf s24 es24
    refine lv_goto (tgt := 195) hx hb dX7_lookOn_179 (by decide) ?_
    have e9 := Option.some.inj hf
    rw [hQ]
    exact W.vret hx hb hr (fun t ht hW => ⟨⟨s24, rfl, e9, ⟨by rw [ht]; exact hP, va_K.moved hW.alike hK, hD⟩⟩, hS.F ht⟩) hS.2.2 dX7_lookOn_195
  have w155 : ∀ (y1 : Int32), ∀ (sRd : MS), ∀ (H : Heap) (locs : List Loc) (ls : Array Slot), f_X7_lookOn_155 F nTp fTp y1 sRd = some res → va_P D vwCl (wRd K hRd aTp rRd4 sRd ++ [(aTp, .inl (K 2, nTp, .inl fTp))]) H → va_D A (wRd K hRd aTp rRd4 sRd ++ [(aTp, .inl (K 2, nTp, .inl fTp))]) → va_S A s.heap H locs → lv_has ls 4 [] → W p l e (headSpec wz_X7_lookOn r_X7_lookOn).room s m args below meth c H locs 0 0 Q (F0 m 155 ls [.int y1, .ref (hRd 99)]) := by
    intro y1 sRd H locs ls hf hP hD hS hl
    unfold f_X7_lookOn_155 at hf
    refine va_put (D := D) (ci := 6) (v := .int y1) (ty := .int) (C := RX7) (T := TX7) (N := 11) hx hb hts iX7 tyX7 tyX7_ok nmX7 hown hK hP hD hS 0 rfl rfl 5 (by decide) (htl _ (mB8 _ (List.mem_of_getElem? (i := 7) rfl))) (fun _ h9 => h9) rfl (by decide +kernel) rfl rfl (Nat.le_of_ble_eq_true rfl) dX7_lookOn_155 (fun H locs hP hD hS => ?_)
    obtain ⟨s23, es23⟩ : ∃ z, z = sI sRd 5 y1 := ⟨_, rfl⟩
    have hP : va_P D vwCl (wRd K hRd aTp rRd4 s23 ++ [(aTp, .inl (K 2, nTp, .inl fTp))]) H := by rw [es23]; exact hP
    have hD : va_D A (wRd K hRd aTp rRd4 s23 ++ [(aTp, .inl (K 2, nTp, .inl fTp))]) := by rw [es23]; exact hD
    have hf := lz_s hf s23 es23
    refine lv_goto (tgt := 195) hx hb dX7_lookOn_158 (by decide) ?_
    have e9 := Option.some.inj hf
    rw [hQ]
    exact W.vret hx hb hr (fun t ht hW => ⟨⟨s23, rfl, e9, ⟨by rw [ht]; exact hP, va_K.moved hW.alike hK, hD⟩⟩, hS.F ht⟩) hS.2.2 dX7_lookOn_195
  have w122 : ∀ (x1 : Int32), ∀ (x2 : Int32), ∀ (y0 : Int32), ∀ (sRd : MS), ∀ (H : Heap) (locs : List Loc) (ls : Array Slot), f_X7_lookOn_122 F nTp fTp x1 x2 y0 sRd = some res → va_P D vwCl (wRd K hRd aTp rRd4 sRd ++ [(aTp, .inl (K 2, nTp, .inl fTp))]) H → va_D A (wRd K hRd aTp rRd4 sRd ++ [(aTp, .inl (K 2, nTp, .inl fTp))]) → va_S A s.heap H locs → lv_has ls 4 [(0, .ref (hRd 99)), (1, .int x1), (2, .int x2)] → W p l e (headSpec wz_X7_lookOn r_X7_lookOn).room s m args below meth c H locs 0 0 Q (F0 m 122 ls [.int y0]) := by
    intro x1 x2 y0 sRd H locs ls hf hP hD hS hl
    unfold f_X7_lookOn_122 at hf
    refine lv_istore_n (lv' := [(3, .int y0), (0, .ref (hRd 99)), (1, .int x1), (2, .int x2)]) hx hb dX7_lookOn_122 rfl hl (by decide) rfl (fun ls hl => ?_)
    refine lv_aload_n hx hb dX7_lookOn_123 rfl (lv_at hl 1 rfl) ?_
    refine lv_aload_n hx hb dX7_lookOn_124 rfl (lv_at hl 1 rfl) ?_
    refine va_get (D := D) (ci := 6) (v := .int (sRd.1 6)) (C := RX7) (T := TX7) (N := 11) hx hb hts iX7 hown hK hP 0 rfl rfl 6 (by decide) (htl _ (mB9 _ (List.mem_of_getElem? (i := 6) rfl))) (fun _ h9 => h9) rfl dX7_lookOn_125 ?_
    refine lv_iconst (v := (1 : Int32)) hx hb dX7_lookOn_128 (by decide) ?_
    refine lv_iload_n hx hb dX7_lookOn_129 rfl (lv_at hl 2 rfl) ?_
    refine lv_iload_n hx hb dX7_lookOn_130 rfl (lv_at hl 3 rfl) ?_
    refine lv_iadd hx hb dX7_lookOn_131 ?_
    refine va_mmax hx hb (hml.trans hl.1.symm) hown (htl _ (mB9 _ (List.mem_of_getElem? (i := 7) rfl))) (htl _ (mB9 _ (List.mem_of_getElem? (i := 8) rfl))) (htl _ (mB9 _ (List.mem_of_getElem? (i := 9) rfl))) (htl _ (mB9 _ (List.mem_of_getElem? (i := 10) rfl))) (Nat.le_of_ble_eq_true rfl) (Nat.le_of_ble_eq_true rfl) (Nat.zero_le _) (Nat.zero_le _) dX7_lookOn_132 ?_
    refine lv_topi (fun v16 ev16 => ?_)
    have hf := lz_s hf v16 ev16
    refine lv_iadd hx hb dX7_lookOn_135 ?_
    refine va_put (D := D) (ci := 6) (v := .int ((sRd.1 6) + v16)) (ty := .int) (C := RX7) (T := TX7) (N := 11) hx hb hts iX7 tyX7 tyX7_ok nmX7 hown hK hP hD hS 0 rfl rfl 7 (by decide) (htl _ (mB8 _ (List.mem_of_getElem? (i := 6) rfl))) (fun _ h9 => h9) rfl (by decide +kernel) rfl rfl (Nat.le_of_ble_eq_true rfl) dX7_lookOn_136 (fun H locs hP hD hS => ?_)
    obtain ⟨s17, es17⟩ : ∃ z, z = sI sRd 7 ((sRd.1 6) + v16) := ⟨_, rfl⟩
    have hP : va_P D vwCl (wRd K hRd aTp rRd4 s17 ++ [(aTp, .inl (K 2, nTp, .inl fTp))]) H := by rw [es17]; exact hP
    have hD : va_D A (wRd K hRd aTp rRd4 s17 ++ [(aTp, .inl (K 2, nTp, .inl fTp))]) := by rw [es17]; exact hD
    have hf := lz_s hf s17 es17
    refine lv_iload_n hx hb dX7_lookOn_139 rfl (lv_at hl 2 rfl) ?_
    refine lv_if_le (tgt := 161) hx hb dX7_lookOn_140 (by decide) (fun c18 => ?_) (fun c18 => ?_)
    · have hf := it_t hf c18
      refine lv_iload_n hx hb dX7_lookOn_161 rfl (lv_at hl 3 rfl) ?_
      refine lv_if_le (tgt := 182) hx hb dX7_lookOn_162 (by decide) (fun c19 => ?_) (fun c19 => ?_)
      · have hf := it_t hf c19
        refine lv_aload_n hx hb dX7_lookOn_182 rfl (lv_at hl 1 rfl) ?_
        refine lv_iload_n hx hb dX7_lookOn_183 rfl (lv_at hl 0 rfl) ?_
        refine lv_if_eq (tgt := 191) hx hb dX7_lookOn_184 (by decide) (fun c20 => ?_) (fun c20 => ?_)
        · have hf := it_t hf c20
          refine lv_iconst (v := (4 : Int32)) hx hb dX7_lookOn_191 (by decide) ?_
          exact w192 (4 : Int32) s17 H locs ls hf hP hD hS (lv_sub hl [] rfl)
        · have hf := it_f hf c20
          refine lv_iconst (v := (3 : Int32)) hx hb dX7_lookOn_187 (by decide) ?_
          refine lv_goto (tgt := 192) hx hb dX7_lookOn_188 (by decide) ?_
          exact w192 (3 : Int32) s17 H locs ls hf hP hD hS (lv_sub hl [] rfl)
      · have hf := it_f hf c19
        refine lv_aload_n hx hb dX7_lookOn_165 rfl (lv_at hl 1 rfl) ?_
        refine lv_iload_n hx hb dX7_lookOn_166 rfl (lv_at hl 3 rfl) ?_
        refine lv_iconst (v := (3 : Int32)) hx hb dX7_lookOn_167 (by decide) ?_
        refine lv_icmp_gt (tgt := 175) hx hb dX7_lookOn_168 (by decide) (fun c21 => ?_) (fun c21 => ?_)
        · have hf := it_t hf c21
          refine lv_iconst (v := (4 : Int32)) hx hb dX7_lookOn_175 (by decide) ?_
          exact w176 (4 : Int32) s17 H locs ls hf hP hD hS (lv_sub hl [] rfl)
        · have hf := it_f hf c21
          refine lv_iconst (v := (2 : Int32)) hx hb dX7_lookOn_171 (by decide) ?_
          refine lv_goto (tgt := 176) hx hb dX7_lookOn_172 (by decide) ?_
          exact w176 (2 : Int32) s17 H locs ls hf hP hD hS (lv_sub hl [] rfl)
    · have hf := it_f hf c18
      refine lv_aload_n hx hb dX7_lookOn_143 rfl (lv_at hl 1 rfl) ?_
      refine lv_iload_n hx hb dX7_lookOn_144 rfl (lv_at hl 2 rfl) ?_
      refine lv_bipush (v := (8 : Int32)) hx hb dX7_lookOn_145 (by decide) ?_
      refine lv_icmp_gt (tgt := 154) hx hb dX7_lookOn_147 (by decide) (fun c22 => ?_) (fun c22 => ?_)
      · have hf := it_t hf c22
        refine lv_iconst (v := (4 : Int32)) hx hb dX7_lookOn_154 (by decide) ?_
        exact w155 (4 : Int32) s17 H locs ls hf hP hD hS (lv_sub hl [] rfl)
      · have hf := it_f hf c22
        refine lv_iconst (v := (1 : Int32)) hx hb dX7_lookOn_150 (by decide) ?_
        refine lv_goto (tgt := 155) hx hb dX7_lookOn_151 (by decide) ?_
        exact w155 (1 : Int32) s17 H locs ls hf hP hD hS (lv_sub hl [] rfl)
  have w117 : ∀ (x1 : Int32), ∀ (x2 : Int32), ∀ (sRd : MS), ∀ (H : Heap) (locs : List Loc) (ls : Array Slot), f_X7_lookOn_117 F nTp fTp x1 x2 sRd = some res → va_P D vwCl (wRd K hRd aTp rRd4 sRd ++ [(aTp, .inl (K 2, nTp, .inl fTp))]) H → va_D A (wRd K hRd aTp rRd4 sRd ++ [(aTp, .inl (K 2, nTp, .inl fTp))]) → va_S A s.heap H locs → lv_has ls 4 [(0, .ref (hRd 99)), (1, .int x1), (2, .int x2)] → W p l e (headSpec wz_X7_lookOn r_X7_lookOn).room s m args below meth c H locs 0 0 Q (F0 m 117 ls []) := by
    intro x1 x2 sRd H locs ls hf hP hD hS hl
    unfold f_X7_lookOn_117 at hf
    refine lv_iconst (v := (1 : Int32)) hx hb dX7_lookOn_117 (by decide) ?_
    refine lv_goto (tgt := 122) hx hb dX7_lookOn_118 (by decide) ?_
    exact w122 x1 x2 (1 : Int32) sRd H locs ls hf hP hD hS (lv_sub hl [0, 1, 2] rfl)
  have w46 : ∀ (sRd : MS), ∀ (H : Heap) (locs : List Loc) (ls : Array Slot), f_X7_lookOn_46 F nTp fTp sRd = some res → va_P D vwCl (wRd K hRd aTp rRd4 sRd ++ [(aTp, .inl (K 2, nTp, .inl fTp))]) H → va_D A (wRd K hRd aTp rRd4 sRd ++ [(aTp, .inl (K 2, nTp, .inl fTp))]) → va_S A s.heap H locs → lv_has ls 4 [(0, .ref (hRd 99))] → W p l e (headSpec wz_X7_lookOn r_X7_lookOn).room s m args below meth c H locs 0 0 Q (F0 m 46 ls []) := by
    intro sRd H locs ls hf hP hD hS hl
    unfold f_X7_lookOn_46 at hf
    refine lv_aload_n hx hb dX7_lookOn_46 rfl (lv_at hl 0 rfl) ?_
    refine va_get (D := D) (ci := 6) (v := .int (sRd.1 6)) (C := RX7) (T := TX7) (N := 11) hx hb hts iX7 hown hK hP 0 rfl rfl 6 (by decide) (htl _ (mB9 _ (List.mem_of_getElem? (i := 6) rfl))) (fun _ h9 => h9) rfl dX7_lookOn_47 ?_
    refine lv_aload_n hx hb dX7_lookOn_50 rfl (lv_at hl 0 rfl) ?_
    refine va_get (D := D) (ci := 6) (v := .int (sRd.1 3)) (C := RX7) (T := TX7) (N := 11) hx hb hts iX7 hown hK hP 0 rfl rfl 3 (by decide) (htl _ (mB8 _ (List.mem_of_getElem? (i := 3) rfl))) (fun _ h9 => h9) rfl dX7_lookOn_51 ?_
    refine lv_icmp_lt (tgt := 71) hx hb dX7_lookOn_54 (by decide) (fun c7 => ?_) (fun c7 => ?_)
    · have hf := it_t hf c7
      refine lv_aload_n hx hb dX7_lookOn_71 rfl (lv_at hl 0 rfl) ?_
      refine lv_bipush (v := (97 : Int32)) hx hb dX7_lookOn_72 (by decide) ?_
      refine lv_bipush (v := (122 : Int32)) hx hb dX7_lookOn_74 (by decide) ?_
      obtain ⟨o8, go8, hf⟩ := bd_s hf
      refine ro_Vi (As := [.int (97 : Int32), .int (122 : Int32)]) (rest := []) ⟨hx, hb, hml, hown, hts⟩ (c_X7_runLength l D K F hRd rRd4 aTp nTp sRd fTp (97 : Int32) (122 : Int32) o8 go8) (cwV 2 hts (gcV_X7_runLength (mB9 _ (List.mem_of_getElem? (i := 11) rfl))) rfl rfl rfl hdV_X7_runLength ⟨Nat.le_of_ble_eq_true rfl, Nat.le_of_ble_eq_true rfl⟩) hK hP hS hP (va_recv hK hP (ci := 6) (q0 := 0) rfl rfl) rfl hl.1 rfl (Nat.le_of_ble_eq_true rfl) dX7_lookOn_76 ⟨Nat.zero_le _, Nat.zero_le _⟩ (fun H locs hP hS => ?_)
      refine lv_istore_n (lv' := [(1, .int o8), (0, .ref (hRd 99))]) hx hb dX7_lookOn_79 rfl hl (by decide) rfl (fun ls hl => ?_)
      refine lv_aload_n hx hb dX7_lookOn_80 rfl (lv_at hl 1 rfl) ?_
      refine lv_bipush (v := (48 : Int32)) hx hb dX7_lookOn_81 (by decide) ?_
      refine lv_bipush (v := (57 : Int32)) hx hb dX7_lookOn_83 (by decide) ?_
      obtain ⟨o9, go9, hf⟩ := bd_s hf
      refine ro_Vi (As := [.int (48 : Int32), .int (57 : Int32)]) (rest := []) ⟨hx, hb, hml, hown, hts⟩ (c_X7_runLength l D K F hRd rRd4 aTp nTp sRd fTp (48 : Int32) (57 : Int32) o9 go9) (cwV 2 hts (gcV_X7_runLength (mB9 _ (List.mem_of_getElem? (i := 11) rfl))) rfl rfl rfl hdV_X7_runLength ⟨Nat.le_of_ble_eq_true rfl, Nat.le_of_ble_eq_true rfl⟩) hK hP hS hP (va_recv hK hP (ci := 6) (q0 := 0) rfl rfl) rfl hl.1 rfl (Nat.le_of_ble_eq_true rfl) dX7_lookOn_85 ⟨Nat.zero_le _, Nat.zero_le _⟩ (fun H locs hP hS => ?_)
      refine lv_istore_n (lv' := [(2, .int o9), (1, .int o8), (0, .ref (hRd 99))]) hx hb dX7_lookOn_88 rfl hl (by decide) rfl (fun ls hl => ?_)
      refine lv_aload_n hx hb dX7_lookOn_89 rfl (lv_at hl 2 rfl) ?_
      refine va_get (D := D) (ci := 6) (v := .ref aTp) (C := RX7) (T := TX7) (N := 11) hx hb hts iX7 hown hK hP 0 rfl rfl 2 (by decide) (htl _ (mB3 _ (List.mem_of_getElem? (i := 16) rfl))) (fun _ h9 => h9) rfl dX7_lookOn_90 ?_
      refine lv_aload_n hx hb dX7_lookOn_93 rfl (lv_at hl 2 rfl) ?_
      refine va_get (D := D) (ci := 6) (v := .int (sRd.1 6)) (C := RX7) (T := TX7) (N := 11) hx hb hts iX7 hown hK hP 0 rfl rfl 6 (by decide) (htl _ (mB9 _ (List.mem_of_getElem? (i := 6) rfl))) (fun _ h9 => h9) rfl dX7_lookOn_94 ?_
      obtain ⟨g10, hf⟩ := gd_s hf
      refine va_bald hx hb hK hP 3 2 (f := fTp) rfl rfl (vpb_in g10) dX7_lookOn_97 ?_
      refine lv_bipush (v := (59 : Int32)) hx hb dX7_lookOn_98 (by decide) ?_
      refine lv_icmp_eq (tgt := 117) hx hb dX7_lookOn_100 (by decide) (fun c11 => ?_) (fun c11 => ?_)
      · have hf := it_t hf c11
        exact w117 o8 o9 sRd H locs ls hf hP hD hS (lv_sub hl [2, 1, 0] rfl)
      · have hf := it_f hf c11
        refine lv_aload_n hx hb dX7_lookOn_103 rfl (lv_at hl 2 rfl) ?_
        refine va_get (D := D) (ci := 6) (v := .ref aTp) (C := RX7) (T := TX7) (N := 11) hx hb hts iX7 hown hK hP 0 rfl rfl 2 (by decide) (htl _ (mB3 _ (List.mem_of_getElem? (i := 16) rfl))) (fun _ h9 => h9) rfl dX7_lookOn_104 ?_
        refine lv_aload_n hx hb dX7_lookOn_107 rfl (lv_at hl 2 rfl) ?_
        refine va_get (D := D) (ci := 6) (v := .int (sRd.1 6)) (C := RX7) (T := TX7) (N := 11) hx hb hts iX7 hown hK hP 0 rfl rfl 6 (by decide) (htl _ (mB9 _ (List.mem_of_getElem? (i := 6) rfl))) (fun _ h9 => h9) rfl dX7_lookOn_108 ?_
        obtain ⟨g12, hf⟩ := gd_s hf
        refine va_bald hx hb hK hP 3 2 (f := fTp) rfl rfl (vpb_in g12) dX7_lookOn_111 ?_
        refine lv_bipush (v := (44 : Int32)) hx hb dX7_lookOn_112 (by decide) ?_
        refine lv_icmp_ne (tgt := 121) hx hb dX7_lookOn_114 (by decide) (fun c13 => ?_) (fun c13 => ?_)
        · have hf := it_f hf c13
          refine lv_iconst (v := (0 : Int32)) hx hb dX7_lookOn_121 (by decide) ?_
          exact w122 o8 o9 (0 : Int32) sRd H locs ls hf hP hD hS (lv_sub hl [2, 1, 0] rfl)
        · have hf := it_t hf c13
          exact w117 o8 o9 sRd H locs ls hf hP hD hS (lv_sub hl [2, 1, 0] rfl)
    · have hf := it_f hf c7
      refine lv_aload_n hx hb dX7_lookOn_57 rfl (lv_at hl 0 rfl) ?_
      refine lv_aload_n hx hb dX7_lookOn_58 rfl (lv_at hl 0 rfl) ?_
      refine va_get (D := D) (ci := 6) (v := .int (sRd.1 6)) (C := RX7) (T := TX7) (N := 11) hx hb hts iX7 hown hK hP 0 rfl rfl 6 (by decide) (htl _ (mB9 _ (List.mem_of_getElem? (i := 6) rfl))) (fun _ h9 => h9) rfl dX7_lookOn_59 ?_
      refine va_put (D := D) (ci := 6) (v := .int (sRd.1 6)) (ty := .int) (C := RX7) (T := TX7) (N := 11) hx hb hts iX7 tyX7 tyX7_ok nmX7 hown hK hP hD hS 0 rfl rfl 7 (by decide) (htl _ (mB8 _ (List.mem_of_getElem? (i := 6) rfl))) (fun _ h9 => h9) rfl (by decide +kernel) rfl rfl (Nat.le_of_ble_eq_true rfl) dX7_lookOn_62 (fun H locs hP hD hS => ?_)
      obtain ⟨s14, es14⟩ : ∃ z, z = sI sRd 7 (sRd.1 6) := ⟨_, rfl⟩
      have hP : va_P D vwCl (wRd K hRd aTp rRd4 s14 ++ [(aTp, .inl (K 2, nTp, .inl fTp))]) H := by rw [es14]; exact hP
      have hD : va_D A (wRd K hRd aTp rRd4 s14 ++ [(aTp, .inl (K 2, nTp, .inl fTp))]) := by rw [es14]; exact hD
      have hf := lz_s hf s14 es14
      refine lv_aload_n hx hb dX7_lookOn_65 rfl (lv_at hl 0 rfl) ?_
      refine lv_iconst (v := (0 : Int32)) hx hb dX7_lookOn_66 (by decide) ?_
      refine va_put (D := D) (ci := 6) (v := .int (0 : Int32)) (ty := .int) (C := RX7) (T := TX7) (N := 11) hx hb hts iX7 tyX7 tyX7_ok nmX7 hown hK hP hD hS 0 rfl rfl 5 (by decide) (htl _ (mB8 _ (List.mem_of_getElem? (i := 7) rfl))) (fun _ h9 => h9) rfl (by decide +kernel) rfl rfl (Nat.le_of_ble_eq_true rfl) dX7_lookOn_67 (fun H locs hP hD hS => ?_)
      obtain ⟨s15, es15⟩ : ∃ z, z = sI s14 5 (0 : Int32) := ⟨_, rfl⟩
      have hP : va_P D vwCl (wRd K hRd aTp rRd4 s15 ++ [(aTp, .inl (K 2, nTp, .inl fTp))]) H := by rw [es15]; exact hP
      have hD : va_D A (wRd K hRd aTp rRd4 s15 ++ [(aTp, .inl (K 2, nTp, .inl fTp))]) := by rw [es15]; exact hD
      have hf := lz_s hf s15 es15
      have e9 := Option.some.inj hf
      rw [hQ]
      exact W.vret hx hb hr (fun t ht hW => ⟨⟨s15, rfl, e9, ⟨by rw [ht]; exact hP, va_K.moved hW.alike hK, hD⟩⟩, hS.F ht⟩) hS.2.2 dX7_lookOn_70
  have w8 : ∀ (n : Nat), ∀ (sRd : MS), ∀ (H : Heap) (locs : List Loc) (ls : Array Slot), f_X7_lookOn_8 F nTp fTp n sRd = some res → va_P D vwCl (wRd K hRd aTp rRd4 sRd ++ [(aTp, .inl (K 2, nTp, .inl fTp))]) H → va_D A (wRd K hRd aTp rRd4 sRd ++ [(aTp, .inl (K 2, nTp, .inl fTp))]) → va_S A s.heap H locs → lv_has ls 4 [(0, .ref (hRd 99))] → W p l e (headSpec wz_X7_lookOn r_X7_lookOn).room s m args below meth c H locs 0 0 Q (F0 m 8 ls []) := by
    intro n
    induction n with
    | zero =>
      intro sRd H locs ls hf
      exact absurd (show none = some res from hf) (fun h => nomatch h)
    | succ n ih =>
      intro sRd H locs ls hf hP hD hS hl
      rw [f_X7_lookOn_8] at hf
      refine lv_aload_n hx hb dX7_lookOn_8 rfl (lv_at hl 0 rfl) ?_
      refine va_get (D := D) (ci := 6) (v := .int (sRd.1 6)) (C := RX7) (T := TX7) (N := 11) hx hb hts iX7 hown hK hP 0 rfl rfl 6 (by decide) (htl _ (mB9 _ (List.mem_of_getElem? (i := 6) rfl))) (fun _ h9 => h9) rfl dX7_lookOn_9 ?_
      refine lv_aload_n hx hb dX7_lookOn_12 rfl (lv_at hl 0 rfl) ?_
      refine va_get (D := D) (ci := 6) (v := .int (sRd.1 3)) (C := RX7) (T := TX7) (N := 11) hx hb hts iX7 hown hK hP 0 rfl rfl 3 (by decide) (htl _ (mB8 _ (List.mem_of_getElem? (i := 3) rfl))) (fun _ h9 => h9) rfl dX7_lookOn_13 ?_
      refine lv_icmp_ge (tgt := 46) hx hb dX7_lookOn_16 (by decide) (fun c2 => ?_) (fun c2 => ?_)
      · have hf := it_t hf c2
        exact w46 sRd H locs ls hf hP hD hS (lv_sub hl [0] rfl)
      · have hf := it_f hf c2
        refine lv_aload_n hx hb dX7_lookOn_19 rfl (lv_at hl 0 rfl) ?_
        refine va_get (D := D) (ci := 6) (v := .ref aTp) (C := RX7) (T := TX7) (N := 11) hx hb hts iX7 hown hK hP 0 rfl rfl 2 (by decide) (htl _ (mB3 _ (List.mem_of_getElem? (i := 16) rfl))) (fun _ h9 => h9) rfl dX7_lookOn_20 ?_
        refine lv_aload_n hx hb dX7_lookOn_23 rfl (lv_at hl 0 rfl) ?_
        refine va_get (D := D) (ci := 6) (v := .int (sRd.1 6)) (C := RX7) (T := TX7) (N := 11) hx hb hts iX7 hown hK hP 0 rfl rfl 6 (by decide) (htl _ (mB9 _ (List.mem_of_getElem? (i := 6) rfl))) (fun _ h9 => h9) rfl dX7_lookOn_24 ?_
        obtain ⟨g3, hf⟩ := gd_s hf
        refine va_bald hx hb hK hP 3 2 (f := fTp) rfl rfl (vpb_in g3) dX7_lookOn_27 ?_
        refine lv_bipush (v := (32 : Int32)) hx hb dX7_lookOn_28 (by decide) ?_
        refine lv_icmp_ne (tgt := 46) hx hb dX7_lookOn_30 (by decide) (fun c4 => ?_) (fun c4 => ?_)
        · have hf := it_f hf c4
          exact w46 sRd H locs ls hf hP hD hS (lv_sub hl [0] rfl)
        · have hf := it_t hf c4
          refine lv_aload_n hx hb dX7_lookOn_33 rfl (lv_at hl 0 rfl) ?_
          refine lv_dup hx hb dX7_lookOn_34 rfl ?_
          refine va_get (D := D) (ci := 6) (v := .int (sRd.1 6)) (C := RX7) (T := TX7) (N := 11) hx hb hts iX7 hown hK hP 0 rfl rfl 6 (by decide) (htl _ (mB9 _ (List.mem_of_getElem? (i := 6) rfl))) (fun _ h9 => h9) rfl dX7_lookOn_35 ?_
          refine lv_iconst (v := (1 : Int32)) hx hb dX7_lookOn_38 (by decide) ?_
          refine lv_iadd hx hb dX7_lookOn_39 ?_
          refine lv_topi (fun v5 ev5 => ?_)
          have hf := lz_s hf v5 ev5
          refine va_put (D := D) (ci := 6) (v := .int v5) (ty := .int) (C := RX7) (T := TX7) (N := 11) hx hb hts iX7 tyX7 tyX7_ok nmX7 hown hK hP hD hS 0 rfl rfl 6 (by decide) (htl _ (mB9 _ (List.mem_of_getElem? (i := 6) rfl))) (fun _ h9 => h9) rfl (by decide +kernel) rfl rfl (Nat.le_of_ble_eq_true rfl) dX7_lookOn_40 (fun H locs hP hD hS => ?_)
          obtain ⟨s6, es6⟩ : ∃ z, z = sI sRd 6 v5 := ⟨_, rfl⟩
          have hP : va_P D vwCl (wRd K hRd aTp rRd4 s6 ++ [(aTp, .inl (K 2, nTp, .inl fTp))]) H := by rw [es6]; exact hP
          have hD : va_D A (wRd K hRd aTp rRd4 s6 ++ [(aTp, .inl (K 2, nTp, .inl fTp))]) := by rw [es6]; exact hD
          have hf := lz_s hf s6 es6
          refine lv_goto (tgt := 8) hx hb dX7_lookOn_43 (by decide) ?_
          exact ih s6 H locs ls hf hP hD hS (lv_sub hl [0] rfl)
  have hen : entryFrame m args 4 = entryFrame m (([.ref (hRd 99)] : List Value).toArray) 4 := by rw [hargs]
  have hl := lv_entry ([.ref (hRd 99)]) (n := 4) (Nat.le_of_ble_eq_true rfl)
  rw [hen, lg_entry_eq]
  generalize (lg_sl ([.ref (hRd 99)]) ++ List.replicate (4 - (lg_sl ([.ref (hRd 99)])).length) Slot.unset).toArray = ls at hl ⊢
  have hl : lv_has ls 4 [(0, .ref (hRd 99))] := hl
  unfold f_X7_lookOn at hf
  obtain ⟨H, hHe⟩ : ∃ z, z = s.heap := ⟨_, rfl⟩
  obtain ⟨locs, hLe⟩ : ∃ z : List Loc, z = [] := ⟨_, rfl⟩
  rw [← hLe]
  have hS : va_S A s.heap H locs := by rw [hHe, hLe]; exact hS
  have hP : va_P D vwCl (wRd K hRd aTp rRd4 sRd ++ [(aTp, .inl (K 2, nTp, .inl fTp))]) H := by rw [hHe]; exact hP
  have hgo : W p l e (headSpec wz_X7_lookOn r_X7_lookOn).room s m args below meth c H locs 0 0 Q (F0 m 0 ls []) := by
    refine lv_aload_n hx hb dX7_lookOn_0 rfl (lv_at hl 0 rfl) ?_
    refine lv_aload_n hx hb dX7_lookOn_1 rfl (lv_at hl 0 rfl) ?_
    refine va_get (D := D) (ci := 6) (v := .int (sRd.1 7)) (C := RX7) (T := TX7) (N := 11) hx hb hts iX7 hown hK hP 0 rfl rfl 7 (by decide) (htl _ (mB8 _ (List.mem_of_getElem? (i := 6) rfl))) (fun _ h9 => h9) rfl dX7_lookOn_2 ?_
    refine va_put (D := D) (ci := 6) (v := .int (sRd.1 7)) (ty := .int) (C := RX7) (T := TX7) (N := 11) hx hb hts iX7 tyX7 tyX7_ok nmX7 hown hK hP hD hS 0 rfl rfl 6 (by decide) (htl _ (mB9 _ (List.mem_of_getElem? (i := 6) rfl))) (fun _ h9 => h9) rfl (by decide +kernel) rfl rfl (Nat.le_of_ble_eq_true rfl) dX7_lookOn_5 (fun H locs hP hD hS => ?_)
    obtain ⟨s1, es1⟩ : ∃ z, z = sI sRd 6 (sRd.1 7) := ⟨_, rfl⟩
    have hP : va_P D vwCl (wRd K hRd aTp rRd4 s1 ++ [(aTp, .inl (K 2, nTp, .inl fTp))]) H := by rw [es1]; exact hP
    have hD : va_D A (wRd K hRd aTp rRd4 s1 ++ [(aTp, .inl (K 2, nTp, .inl fTp))]) := by rw [es1]; exact hD
    have hf := lz_s hf s1 es1
    exact w8 F s1 H locs ls hf hP hD hS (lv_sub hl [0] rfl)
  rw [hHe] at hgo
  exact hgo

def wz_X7_failAt : List Cond := .code yX7_failAt cX7_failAt 3 (some .boolean) :: wsL_law
abbrev r_X7_failAt : Room := { frames := 0, cells := 0, slots := 0, locals := 0 }
set_option maxHeartbeats 4000000 in
set_option maxRecDepth 100000 in
theorem c_X7_failAt (l : Launch) (D : va_G) (K : Nat → ClassId) (F : Nat) (hRd : Nat → Nat) (rRd2 : Nat) (rRd4 : Nat) (sz : Nat) (sRd : MS) (p1 : Int32) (p2 : Int32) (res : Int32 × MS) (hf : f_X7_failAt F p1 p2 sRd = some res) : Met l yX7_failAt wz_X7_failAt r_X7_failAt (va_Pc [.ref (hRd 99), .int p1, .int p2] (PW D K (wRd K hRd rRd2 rRd4 sRd) sz)) (va_Qi (fun r u => r = res.1 ∧ u = res.2) (fun u t => BW D K (va_A (wRd K hRd rRd2 rRd4 sRd) sz) (wRd K hRd rRd2 rRd4 u) t) (va_A (wRd K hRd rRd2 rRd4 sRd) sz)) 0 0 (va_A (wRd K hRd rRd2 rRd4 sRd) sz) := by
  refine Met.ofW (cc := cX7_failAt) (maxL := 3) (ret := (some .boolean)) (by decide) rfl ?_
  intro p e s m args below meth c s₁ B hml hv
  obtain ⟨hargs, hsz, hP, hK, hD0⟩ := hv
  have hx := B.exec
  have hb := B.bytes
  have hr := B.returns
  have hts := atoms_spec (ws := wz_X7_failAt) B.pre
  have htl : ∀ w ∈ wsL_law, w.before args s = true := fun w h => hts w (List.mem_cons_of_mem _ h)
  have hown : s.vm.findClass RX7 = some m.cls := findClass_of_methodNamed B.named
  have hlocks := B.notSynchronized
  subst hsz
  have hD := hD0.self (sz := s.heap.size)
  generalize hAe : va_A (wRd K hRd rRd2 rRd4 sRd) s.heap.size = A at hD ⊢
  have hA : ∀ q : Nat, s.heap.size ≤ q → A q := fun q h => by rw [← hAe]; exact Or.inr h
  have hS : va_S A s.heap s.heap [] := va_S.rf
  have iX7 : ∀ w ∈ wsX70, w ∈ wz_X7_failAt := fun w h => List.mem_cons_of_mem _ (inlX7 w h)
  suffices hgo : ∀ Q : State → Prop, Q = MQ below (va_Qi (fun r u => r = res.1 ∧ u = res.2) (fun u t => BW D K A (wRd K hRd rRd2 rRd4 u) t) A) args s 0 0 A → W p l e (headSpec wz_X7_failAt r_X7_failAt).room s m args below meth c s.heap [] 0 0 Q (entryFrame m args 3) from hgo _ rfl
  intro Q hQ
  have hen : entryFrame m args 3 = entryFrame m (([.ref (hRd 99), .int p1, .int p2] : List Value).toArray) 3 := by rw [hargs]
  have hl := lv_entry ([.ref (hRd 99), .int p1, .int p2]) (n := 3) (Nat.le_of_ble_eq_true rfl)
  rw [hen, lg_entry_eq]
  generalize (lg_sl ([.ref (hRd 99), .int p1, .int p2]) ++ List.replicate (3 - (lg_sl ([.ref (hRd 99), .int p1, .int p2])).length) Slot.unset).toArray = ls at hl ⊢
  have hl : lv_has ls 3 [(0, .ref (hRd 99)), (1, .int p1), (2, .int p2)] := hl
  unfold f_X7_failAt at hf
  obtain ⟨H, hHe⟩ : ∃ z, z = s.heap := ⟨_, rfl⟩
  obtain ⟨locs, hLe⟩ : ∃ z : List Loc, z = [] := ⟨_, rfl⟩
  rw [← hLe]
  have hS : va_S A s.heap H locs := by rw [hHe, hLe]; exact hS
  have hP : va_P D vwCl (wRd K hRd rRd2 rRd4 sRd) H := by rw [hHe]; exact hP
  have hgo : W p l e (headSpec wz_X7_failAt r_X7_failAt).room s m args below meth c H locs 0 0 Q (F0 m 0 ls []) := by
    refine lv_aload_n hx hb dX7_failAt_0 rfl (lv_at hl 0 rfl) ?_
    refine lv_iload_n hx hb dX7_failAt_1 rfl (lv_at hl 1 rfl) ?_
    refine va_put (D := D) (ci := 6) (v := .int p1) (ty := .int) (C := RX7) (T := TX7) (N := 11) hx hb hts iX7 tyX7 tyX7_ok nmX7 hown hK hP hD hS 0 rfl rfl 0 (by decide) (htl _ (mB8 _ (List.mem_of_getElem? (i := 4) rfl))) (fun _ h9 => h9) rfl (by decide +kernel) rfl rfl (Nat.le_of_ble_eq_true rfl) dX7_failAt_2 (fun H locs hP hD hS => ?_)
    obtain ⟨s1, es1⟩ : ∃ z, z = sI sRd 0 p1 := ⟨_, rfl⟩
    have hP : va_P D vwCl (wRd K hRd rRd2 rRd4 s1) H := by rw [es1]; exact hP
    have hD : va_D A (wRd K hRd rRd2 rRd4 s1) := by rw [es1]; exact hD
    have hf := lz_s hf s1 es1
    refine lv_aload_n hx hb dX7_failAt_5 rfl (lv_at hl 0 rfl) ?_
    refine lv_iload_n hx hb dX7_failAt_6 rfl (lv_at hl 2 rfl) ?_
    refine va_put (D := D) (ci := 6) (v := .int p2) (ty := .int) (C := RX7) (T := TX7) (N := 11) hx hb hts iX7 tyX7 tyX7_ok nmX7 hown hK hP hD hS 0 rfl rfl 1 (by decide) (htl _ (mB8 _ (List.mem_of_getElem? (i := 5) rfl))) (fun _ h9 => h9) rfl (by decide +kernel) rfl rfl (Nat.le_of_ble_eq_true rfl) dX7_failAt_7 (fun H locs hP hD hS => ?_)
    obtain ⟨s2, es2⟩ : ∃ z, z = sI s1 1 p2 := ⟨_, rfl⟩
    have hP : va_P D vwCl (wRd K hRd rRd2 rRd4 s2) H := by rw [es2]; exact hP
    have hD : va_D A (wRd K hRd rRd2 rRd4 s2) := by rw [es2]; exact hD
    have hf := lz_s hf s2 es2
    refine lv_iconst (v := (0 : Int32)) hx hb dX7_failAt_10 (by decide) ?_
    have e9 := Option.some.inj hf
    rw [hQ]
    exact W.zret (v := (0 : Int32)) hx hb hr rfl (fun t ht hW => ⟨⟨(0 : Int32), s2, rfl, ⟨pr1 e9, pr2 e9⟩, ⟨by rw [ht]; exact hP, va_K.moved hW.alike hK, hD⟩⟩, hS.F ht⟩) hS.2.2 dX7_failAt_11
  rw [hHe] at hgo
  exact hgo

theorem gcV_X7_failAt {T0 : Cond} {own : String} {i : Nat} (h : Cond.methodLink own i yX7_failAt ∈ wsL_law) : GoodIn (T0 :: wsL_law) (wsV own i RX7 yX7_failAt wz_X7_failAt) := gV h (mB12 _ (List.mem_of_getElem? (i := 10) rfl)) (mB12 _ (List.mem_of_getElem? (i := 11) rfl)) (mB1 _ (List.mem_of_getElem? (i := 22) rfl)) (mB12 _ (List.mem_of_getElem? (i := 12) rfl))
theorem hdV_X7_failAt : yX7_failAt.cls = RX7 ∧ yX7_failAt.cls ≠ "java/lang/invoke/MethodHandle" ∧ yX7_failAt.cls ≠ "java/lang/invoke/VarHandle" ∧ (parseMethodDescriptor yX7_failAt.desc).map (fun d => d.parameters.length) = some 2 := by decide +kernel
def wz_X7_failWith : List Cond := .code yX7_failWith cX7_failWith 2 (some .boolean) :: wsL_law
abbrev r_X7_failWith : Room := { frames := 1, cells := 0, slots := 0, locals := 22 }
set_option maxHeartbeats 4000000 in
set_option maxRecDepth 100000 in
theorem c_X7_failWith (l : Launch) (D : va_G) (K : Nat → ClassId) (F : Nat) (hRd : Nat → Nat) (rRd2 : Nat) (rRd4 : Nat) (sz : Nat) (sRd : MS) (p1 : Int32) (res : Int32 × MS) (hf : f_X7_failWith F p1 sRd = some res) : Met l yX7_failWith wz_X7_failWith r_X7_failWith (va_Pc [.ref (hRd 99), .int p1] (PW D K (wRd K hRd rRd2 rRd4 sRd) sz)) (va_Qi (fun r u => r = res.1 ∧ u = res.2) (fun u t => BW D K (va_A (wRd K hRd rRd2 rRd4 sRd) sz) (wRd K hRd rRd2 rRd4 u) t) (va_A (wRd K hRd rRd2 rRd4 sRd) sz)) 0 0 (va_A (wRd K hRd rRd2 rRd4 sRd) sz) := by
  refine Met.ofW (cc := cX7_failWith) (maxL := 2) (ret := (some .boolean)) (by decide) rfl ?_
  intro p e s m args below meth c s₁ B hml hv
  obtain ⟨hargs, hsz, hP, hK, hD0⟩ := hv
  have hx := B.exec
  have hb := B.bytes
  have hr := B.returns
  have hts := atoms_spec (ws := wz_X7_failWith) B.pre
  have htl : ∀ w ∈ wsL_law, w.before args s = true := fun w h => hts w (List.mem_cons_of_mem _ h)
  have hown : s.vm.findClass RX7 = some m.cls := findClass_of_methodNamed B.named
  have hlocks := B.notSynchronized
  subst hsz
  have hD := hD0.self (sz := s.heap.size)
  generalize hAe : va_A (wRd K hRd rRd2 rRd4 sRd) s.heap.size = A at hD ⊢
  have hA : ∀ q : Nat, s.heap.size ≤ q → A q := fun q h => by rw [← hAe]; exact Or.inr h
  have hS : va_S A s.heap s.heap [] := va_S.rf
  have iX7 : ∀ w ∈ wsX70, w ∈ wz_X7_failWith := fun w h => List.mem_cons_of_mem _ (inlX7 w h)
  suffices hgo : ∀ Q : State → Prop, Q = MQ below (va_Qi (fun r u => r = res.1 ∧ u = res.2) (fun u t => BW D K A (wRd K hRd rRd2 rRd4 u) t) A) args s 0 0 A → W p l e (headSpec wz_X7_failWith r_X7_failWith).room s m args below meth c s.heap [] 0 0 Q (entryFrame m args 2) from hgo _ rfl
  intro Q hQ
  have hen : entryFrame m args 2 = entryFrame m (([.ref (hRd 99), .int p1] : List Value).toArray) 2 := by rw [hargs]
  have hl := lv_entry ([.ref (hRd 99), .int p1]) (n := 2) (Nat.le_of_ble_eq_true rfl)
  rw [hen, lg_entry_eq]
  generalize (lg_sl ([.ref (hRd 99), .int p1]) ++ List.replicate (2 - (lg_sl ([.ref (hRd 99), .int p1])).length) Slot.unset).toArray = ls at hl ⊢
  have hl : lv_has ls 2 [(0, .ref (hRd 99)), (1, .int p1)] := hl
  unfold f_X7_failWith at hf
  obtain ⟨H, hHe⟩ : ∃ z, z = s.heap := ⟨_, rfl⟩
  obtain ⟨locs, hLe⟩ : ∃ z : List Loc, z = [] := ⟨_, rfl⟩
  rw [← hLe]
  have hS : va_S A s.heap H locs := by rw [hHe, hLe]; exact hS
  have hP : va_P D vwCl (wRd K hRd rRd2 rRd4 sRd) H := by rw [hHe]; exact hP
  have hgo : W p l e (headSpec wz_X7_failWith r_X7_failWith).room s m args below meth c H locs 0 0 Q (F0 m 0 ls []) := by
    refine lv_aload_n hx hb dX7_failWith_0 rfl (lv_at hl 0 rfl) ?_
    refine lv_iload_n hx hb dX7_failWith_1 rfl (lv_at hl 1 rfl) ?_
    refine lv_aload_n hx hb dX7_failWith_2 rfl (lv_at hl 0 rfl) ?_
    refine va_get (D := D) (ci := 6) (v := .int (sRd.1 6)) (C := RX7) (T := TX7) (N := 11) hx hb hts iX7 hown hK hP 0 rfl rfl 6 (by decide) (htl _ (mB9 _ (List.mem_of_getElem? (i := 6) rfl))) (fun _ h9 => h9) rfl dX7_failWith_3 ?_
    obtain ⟨o1, go1, hf⟩ := bd_s hf
    refine rs_Vi (As := [.int p1, .int (sRd.1 6)]) (rest := []) ⟨hx, hb, hml, hown, hts⟩ (c_X7_failAt l D K F hRd rRd2 rRd4 H.size sRd p1 (sRd.1 6) o1 go1) (cwV 2 hts (gcV_X7_failAt (mB12 _ (List.mem_of_getElem? (i := 9) rfl))) rfl rfl rfl hdV_X7_failAt ⟨Nat.le_of_ble_eq_true rfl, Nat.le_of_ble_eq_true rfl⟩) hK hP hD hS hA (va_recv hK hP (ci := 6) (q0 := 0) rfl rfl) rfl hl.1 rfl (Nat.le_of_ble_eq_true rfl) dX7_failWith_6 ⟨Nat.zero_le _, Nat.zero_le _⟩ (fun H locs hP hD hS => ?_)
    have hP : va_P D vwCl (wRd K hRd rRd2 rRd4 o1.2) H := hP
    have hD : va_D A (wRd K hRd rRd2 rRd4 o1.2) := hD
    obtain ⟨g2, hf⟩ := gd_s hf
    have e9 := Option.some.inj hf
    rw [hQ]
    exact W.zret (v := o1.1) hx hb hr (bob_s g2) (fun t ht hW => ⟨⟨o1.1, o1.2, rfl, ⟨pr1 e9, pr2 e9⟩, ⟨by rw [ht]; exact hP, va_K.moved hW.alike hK, hD⟩⟩, hS.F ht⟩) hS.2.2 dX7_failWith_9
  rw [hHe] at hgo
  exact hgo

theorem gcV_X7_failWith {T0 : Cond} {own : String} {i : Nat} (h : Cond.methodLink own i yX7_failWith ∈ wsL_law) : GoodIn (T0 :: wsL_law) (wsV own i RX7 yX7_failWith wz_X7_failWith) := gV h (mB12 _ (List.mem_of_getElem? (i := 6) rfl)) (mB12 _ (List.mem_of_getElem? (i := 7) rfl)) (mB1 _ (List.mem_of_getElem? (i := 22) rfl)) (mB12 _ (List.mem_of_getElem? (i := 8) rfl))
theorem hdV_X7_failWith : yX7_failWith.cls = RX7 ∧ yX7_failWith.cls ≠ "java/lang/invoke/MethodHandle" ∧ yX7_failWith.cls ≠ "java/lang/invoke/VarHandle" ∧ (parseMethodDescriptor yX7_failWith.desc).map (fun d => d.parameters.length) = some 1 := by decide +kernel
theorem gcV_X7_lookOn {T0 : Cond} {own : String} {i : Nat} (h : Cond.methodLink own i yX7_lookOn ∈ wsL_law) : GoodIn (T0 :: wsL_law) (wsV own i RX7 yX7_lookOn wz_X7_lookOn) := gV h (mB9 _ (List.mem_of_getElem? (i := 3) rfl)) (mB9 _ (List.mem_of_getElem? (i := 4) rfl)) (mB1 _ (List.mem_of_getElem? (i := 22) rfl)) (mB9 _ (List.mem_of_getElem? (i := 5) rfl))
theorem hdV_X7_lookOn : yX7_lookOn.cls = RX7 ∧ yX7_lookOn.cls ≠ "java/lang/invoke/MethodHandle" ∧ yX7_lookOn.cls ≠ "java/lang/invoke/VarHandle" ∧ (parseMethodDescriptor yX7_lookOn.desc).map (fun d => d.parameters.length) = some 0 := by decide +kernel
def wz_X7_passWhole : List Cond := .code yX7_passWhole cX7_passWhole 4 (some .boolean) :: wsL_law
abbrev r_X7_passWhole : Room := { frames := 2, cells := 0, slots := 0, locals := 46 }
set_option maxHeartbeats 4000000 in
set_option maxRecDepth 100000 in
theorem c_X7_passWhole (l : Launch) (D : va_G) (K : Nat → ClassId) (F : Nat) (hRd : Nat → Nat) (rRd4 : Nat) (aTp nTp : Nat) (sz : Nat) (sRd : MS) (fTp : (Nat → Int32)) (p1 : Int32) (p2 : Int32) (res : Int32 × MS) (hf : f_X7_passWhole F nTp fTp p1 p2 sRd = some res) : Met l yX7_passWhole wz_X7_passWhole r_X7_passWhole (va_Pc [.ref (hRd 99), .int p1, .int p2] (PW D K (wRd K hRd aTp rRd4 sRd ++ [(aTp, .inl (K 2, nTp, .inl fTp))]) sz)) (va_Qi (fun r u => r = res.1 ∧ u = res.2) (fun u t => BW D K (va_A (wRd K hRd aTp rRd4 sRd ++ [(aTp, .inl (K 2, nTp, .inl fTp))]) sz) (wRd K hRd aTp rRd4 u ++ [(aTp, .inl (K 2, nTp, .inl fTp))]) t) (va_A (wRd K hRd aTp rRd4 sRd ++ [(aTp, .inl (K 2, nTp, .inl fTp))]) sz)) 0 0 (va_A (wRd K hRd aTp rRd4 sRd ++ [(aTp, .inl (K 2, nTp, .inl fTp))]) sz) := by
  refine Met.ofW (cc := cX7_passWhole) (maxL := 4) (ret := (some .boolean)) (by decide) rfl ?_
  intro p e s m args below meth c s₁ B hml hv
  obtain ⟨hargs, hsz, hP, hK, hD0⟩ := hv
  have hx := B.exec
  have hb := B.bytes
  have hr := B.returns
  have hts := atoms_spec (ws := wz_X7_passWhole) B.pre
  have htl : ∀ w ∈ wsL_law, w.before args s = true := fun w h => hts w (List.mem_cons_of_mem _ h)
  have hown : s.vm.findClass RX7 = some m.cls := findClass_of_methodNamed B.named
  have hlocks := B.notSynchronized
  subst hsz
  have hD := hD0.self (sz := s.heap.size)
  generalize hAe : va_A (wRd K hRd aTp rRd4 sRd ++ [(aTp, .inl (K 2, nTp, .inl fTp))]) s.heap.size = A at hD ⊢
  have hA : ∀ q : Nat, s.heap.size ≤ q → A q := fun q h => by rw [← hAe]; exact Or.inr h
  have hS : va_S A s.heap s.heap [] := va_S.rf
  have iX7 : ∀ w ∈ wsX70, w ∈ wz_X7_passWhole := fun w h => List.mem_cons_of_mem _ (inlX7 w h)
  suffices hgo : ∀ Q : State → Prop, Q = MQ below (va_Qi (fun r u => r = res.1 ∧ u = res.2) (fun u t => BW D K A (wRd K hRd aTp rRd4 u ++ [(aTp, .inl (K 2, nTp, .inl fTp))]) t) A) args s 0 0 A → W p l e (headSpec wz_X7_passWhole r_X7_passWhole).room s m args below meth c s.heap [] 0 0 Q (entryFrame m args 4) from hgo _ rfl
  intro Q hQ
  have w75 : ∀ (sRd : MS), ∀ (H : Heap) (locs : List Loc) (ls : Array Slot), f_X7_passWhole_75 F nTp fTp p1 p2 sRd = some res → va_P D vwCl (wRd K hRd aTp rRd4 sRd ++ [(aTp, .inl (K 2, nTp, .inl fTp))]) H → va_D A (wRd K hRd aTp rRd4 sRd ++ [(aTp, .inl (K 2, nTp, .inl fTp))]) → va_S A s.heap H locs → lv_has ls 4 [(0, .ref (hRd 99))] → W p l e (headSpec wz_X7_passWhole r_X7_passWhole).room s m args below meth c H locs 0 0 Q (F0 m 75 ls []) := by
    intro sRd H locs ls hf hP hD hS hl
    unfold f_X7_passWhole_75 at hf
    refine lv_aload_n hx hb dX7_passWhole_75 rfl (lv_at hl 0 rfl) ?_
    refine lv_iconst (v := (4 : Int32)) hx hb dX7_passWhole_76 (by decide) ?_
    obtain ⟨o13, go13, hf⟩ := bd_s hf
    refine rw_Vi (wn := wRd K hRd aTp rRd4 o13.2 ++ [(aTp, .inl (K 2, nTp, .inl fTp))]) (As := [.int (4 : Int32)]) (rest := []) ⟨hx, hb, hml, hown, hts⟩ (c_X7_failWith l D K F hRd aTp rRd4 H.size sRd (4 : Int32) o13 go13) (cwV 1 hts (gcV_X7_failWith (mB12 _ (List.mem_of_getElem? (i := 5) rfl))) rfl rfl rfl hdV_X7_failWith ⟨Nat.le_of_ble_eq_true rfl, Nat.le_of_ble_eq_true rfl⟩) hK hP hD hS hA [0, 1, 2] [3] [1, 2, 3, 0] rfl rfl (by decide) (by decide) (by decide) rfl (by decide) (va_recv hK hP (ci := 6) (q0 := 0) rfl rfl) rfl hl.1 rfl (Nat.le_of_ble_eq_true rfl) dX7_passWhole_77 ⟨Nat.zero_le _, Nat.zero_le _⟩ (fun H locs hP hD hS => ?_)
    have hP : va_P D vwCl (wRd K hRd aTp rRd4 o13.2 ++ [(aTp, .inl (K 2, nTp, .inl fTp))]) H := hP
    have hD : va_D A (wRd K hRd aTp rRd4 o13.2 ++ [(aTp, .inl (K 2, nTp, .inl fTp))]) := hD
    obtain ⟨g14, hf⟩ := gd_s hf
    have e9 := Option.some.inj hf
    rw [hQ]
    exact W.zret (v := o13.1) hx hb hr (bob_s g14) (fun t ht hW => ⟨⟨o13.1, o13.2, rfl, ⟨pr1 e9, pr2 e9⟩, ⟨by rw [ht]; exact hP, va_K.moved hW.alike hK, hD⟩⟩, hS.F ht⟩) hS.2.2 dX7_passWhole_80
  have w59 : ∀ (sRd : MS), ∀ (H : Heap) (locs : List Loc) (ls : Array Slot), f_X7_passWhole_59 F nTp fTp p1 p2 sRd = some res → va_P D vwCl (wRd K hRd aTp rRd4 sRd ++ [(aTp, .inl (K 2, nTp, .inl fTp))]) H → va_D A (wRd K hRd aTp rRd4 sRd ++ [(aTp, .inl (K 2, nTp, .inl fTp))]) → va_S A s.heap H locs → lv_has ls 4 [(0, .ref (hRd 99)), (1, .int p1), (2, .int p2)] → W p l e (headSpec wz_X7_passWhole r_X7_passWhole).room s m args below meth c H locs 0 0 Q (F0 m 59 ls []) := by
    intro sRd H locs ls hf hP hD hS hl
    unfold f_X7_passWhole_59 at hf
    refine lv_aload_n hx hb dX7_passWhole_59 rfl (lv_at hl 0 rfl) ?_
    refine va_get (D := D) (ci := 6) (v := .int (sRd.1 8)) (C := RX7) (T := TX7) (N := 11) hx hb hts iX7 hown hK hP 0 rfl rfl 8 (by decide) (htl _ (mB12 _ (List.mem_of_getElem? (i := 17) rfl))) (fun _ h9 => h9) rfl dX7_passWhole_60 ?_
    refine lv_iload_n hx hb dX7_passWhole_63 rfl (lv_at hl 1 rfl) ?_
    refine lv_icmp_lt (tgt := 75) hx hb dX7_passWhole_64 (by decide) (fun c10 => ?_) (fun c10 => ?_)
    · have hf := it_t hf c10
      exact w75 sRd H locs ls hf hP hD hS (lv_sub hl [0] rfl)
    · have hf := it_f hf c10
      refine lv_aload_n hx hb dX7_passWhole_67 rfl (lv_at hl 0 rfl) ?_
      refine va_get (D := D) (ci := 6) (v := .int (sRd.1 8)) (C := RX7) (T := TX7) (N := 11) hx hb hts iX7 hown hK hP 0 rfl rfl 8 (by decide) (htl _ (mB12 _ (List.mem_of_getElem? (i := 17) rfl))) (fun _ h9 => h9) rfl dX7_passWhole_68 ?_
      refine lv_iload_n hx hb dX7_passWhole_71 rfl (lv_at hl 2 rfl) ?_
      refine lv_icmp_le (tgt := 81) hx hb dX7_passWhole_72 (by decide) (fun c11 => ?_) (fun c11 => ?_)
      · have hf := it_t hf c11
        refine lv_aload_n hx hb dX7_passWhole_81 rfl (lv_at hl 0 rfl) ?_
        obtain ⟨o12, go12, hf⟩ := bd_s hf
        refine rs_Vv (As := []) (rest := []) ⟨hx, hb, hml, hown, hts⟩ (c_X7_lookOn l D K F hRd rRd4 aTp nTp H.size sRd fTp o12 go12) (cwV 0 hts (gcV_X7_lookOn (mB9 _ (List.mem_of_getElem? (i := 2) rfl))) rfl rfl rfl hdV_X7_lookOn ⟨Nat.le_of_ble_eq_true rfl, Nat.le_of_ble_eq_true rfl⟩) hK hP hD hS hA (va_recv hK hP (ci := 6) (q0 := 0) rfl rfl) rfl hl.1 rfl (Nat.le_of_ble_eq_true rfl) dX7_passWhole_82 ⟨Nat.zero_le _, Nat.zero_le _⟩ (fun H locs hP hD hS => ?_)
        have hP : va_P D vwCl (wRd K hRd aTp rRd4 o12 ++ [(aTp, .inl (K 2, nTp, .inl fTp))]) H := hP
        have hD : va_D A (wRd K hRd aTp rRd4 o12 ++ [(aTp, .inl (K 2, nTp, .inl fTp))]) := hD
        refine lv_iconst (v := (1 : Int32)) hx hb dX7_passWhole_85 (by decide) ?_
        have e9 := Option.some.inj hf
        rw [hQ]
        exact W.zret (v := (1 : Int32)) hx hb hr rfl (fun t ht hW => ⟨⟨(1 : Int32), o12, rfl, ⟨pr1 e9, pr2 e9⟩, ⟨by rw [ht]; exact hP, va_K.moved hW.alike hK, hD⟩⟩, hS.F ht⟩) hS.2.2 dX7_passWhole_86
      · have hf := it_f hf c11
        exact w75 sRd H locs ls hf hP hD hS (lv_sub hl [0] rfl)
  have w24 : ∀ (n : Nat), ∀ (x3 : Int32), ∀ (sRd : MS), ∀ (H : Heap) (locs : List Loc) (ls : Array Slot), f_X7_passWhole_24 F nTp fTp p1 p2 n x3 sRd = some res → va_P D vwCl (wRd K hRd aTp rRd4 sRd ++ [(aTp, .inl (K 2, nTp, .inl fTp))]) H → va_D A (wRd K hRd aTp rRd4 sRd ++ [(aTp, .inl (K 2, nTp, .inl fTp))]) → va_S A s.heap H locs → lv_has ls 4 [(0, .ref (hRd 99)), (1, .int p1), (2, .int p2), (3, .int x3)] → W p l e (headSpec wz_X7_passWhole r_X7_passWhole).room s m args below meth c H locs 0 0 Q (F0 m 24 ls []) := by
    intro n
    induction n with
    | zero =>
      intro x3 sRd H locs ls hf
      exact absurd (show none = some res from hf) (fun h => nomatch h)
    | succ n ih =>
      intro x3 sRd H locs ls hf hP hD hS hl
      rw [f_X7_passWhole_24] at hf
      refine lv_iload_n hx hb dX7_passWhole_24 rfl (lv_at hl 3 rfl) ?_
      refine lv_aload_n hx hb dX7_passWhole_25 rfl (lv_at hl 0 rfl) ?_
      refine va_get (D := D) (ci := 6) (v := .int (sRd.1 7)) (C := RX7) (T := TX7) (N := 11) hx hb hts iX7 hown hK hP 0 rfl rfl 7 (by decide) (htl _ (mB8 _ (List.mem_of_getElem? (i := 6) rfl))) (fun _ h9 => h9) rfl dX7_passWhole_26 ?_
      refine lv_icmp_ge (tgt := 59) hx hb dX7_passWhole_29 (by decide) (fun c5 => ?_) (fun c5 => ?_)
      · have hf := it_t hf c5
        exact w59 sRd H locs ls hf hP hD hS (lv_sub hl [0, 1, 2] rfl)
      · have hf := it_f hf c5
        refine lv_aload_n hx hb dX7_passWhole_32 rfl (lv_at hl 0 rfl) ?_
        refine lv_aload_n hx hb dX7_passWhole_33 rfl (lv_at hl 0 rfl) ?_
        refine va_get (D := D) (ci := 6) (v := .int (sRd.1 8)) (C := RX7) (T := TX7) (N := 11) hx hb hts iX7 hown hK hP 0 rfl rfl 8 (by decide) (htl _ (mB12 _ (List.mem_of_getElem? (i := 17) rfl))) (fun _ h9 => h9) rfl dX7_passWhole_34 ?_
        refine lv_bipush (v := (10 : Int32)) hx hb dX7_passWhole_37 (by decide) ?_
        refine lv_imul hx hb dX7_passWhole_39 ?_
        refine lv_aload_n hx hb dX7_passWhole_40 rfl (lv_at hl 0 rfl) ?_
        refine va_get (D := D) (ci := 6) (v := .ref aTp) (C := RX7) (T := TX7) (N := 11) hx hb hts iX7 hown hK hP 0 rfl rfl 2 (by decide) (htl _ (mB3 _ (List.mem_of_getElem? (i := 16) rfl))) (fun _ h9 => h9) rfl dX7_passWhole_41 ?_
        refine lv_iload_n hx hb dX7_passWhole_44 rfl (lv_at hl 3 rfl) ?_
        obtain ⟨g6, hf⟩ := gd_s hf
        refine va_bald hx hb hK hP 3 2 (f := fTp) rfl rfl (vpb_in g6) dX7_passWhole_45 ?_
        refine lv_iadd hx hb dX7_passWhole_46 ?_
        refine lv_topi (fun v7 ev7 => ?_)
        have hf := lz_s hf v7 ev7
        refine lv_bipush (v := (48 : Int32)) hx hb dX7_passWhole_47 (by decide) ?_
        refine lv_isub hx hb dX7_passWhole_49 ?_
        refine va_put (D := D) (ci := 6) (v := .int (v7 - (48 : Int32))) (ty := .int) (C := RX7) (T := TX7) (N := 11) hx hb hts iX7 tyX7 tyX7_ok nmX7 hown hK hP hD hS 0 rfl rfl 8 (by decide) (htl _ (mB12 _ (List.mem_of_getElem? (i := 17) rfl))) (fun _ h9 => h9) rfl (by decide +kernel) rfl rfl (Nat.le_of_ble_eq_true rfl) dX7_passWhole_50 (fun H locs hP hD hS => ?_)
        obtain ⟨s8, es8⟩ : ∃ z, z = sI sRd 8 (v7 - (48 : Int32)) := ⟨_, rfl⟩
        have hP : va_P D vwCl (wRd K hRd aTp rRd4 s8 ++ [(aTp, .inl (K 2, nTp, .inl fTp))]) H := by rw [es8]; exact hP
        have hD : va_D A (wRd K hRd aTp rRd4 s8 ++ [(aTp, .inl (K 2, nTp, .inl fTp))]) := by rw [es8]; exact hD
        have hf := lz_s hf s8 es8
        obtain ⟨v9, ev9⟩ : ∃ z : Int32, z = x3 + (1 : Int32) := ⟨_, rfl⟩
        have hf := lz_s hf v9 ev9
        refine lv_iinc (v := v9) (lv' := [(3, .int v9), (0, .ref (hRd 99)), (1, .int p1), (2, .int p2)]) hx hb dX7_passWhole_53 hl (k := 3) rfl (by rw [ev9]; rfl) (by decide) rfl (fun ls hl => ?_)
        refine lv_goto (tgt := 24) hx hb dX7_passWhole_56 (by decide) ?_
        exact ih v9 s8 H locs ls hf hP hD hS (lv_sub hl [1, 2, 3, 0] rfl)
  have hen : entryFrame m args 4 = entryFrame m (([.ref (hRd 99), .int p1, .int p2] : List Value).toArray) 4 := by rw [hargs]
  have hl := lv_entry ([.ref (hRd 99), .int p1, .int p2]) (n := 4) (Nat.le_of_ble_eq_true rfl)
  rw [hen, lg_entry_eq]
  generalize (lg_sl ([.ref (hRd 99), .int p1, .int p2]) ++ List.replicate (4 - (lg_sl ([.ref (hRd 99), .int p1, .int p2])).length) Slot.unset).toArray = ls at hl ⊢
  have hl : lv_has ls 4 [(0, .ref (hRd 99)), (1, .int p1), (2, .int p2)] := hl
  unfold f_X7_passWhole at hf
  obtain ⟨H, hHe⟩ : ∃ z, z = s.heap := ⟨_, rfl⟩
  obtain ⟨locs, hLe⟩ : ∃ z : List Loc, z = [] := ⟨_, rfl⟩
  rw [← hLe]
  have hS : va_S A s.heap H locs := by rw [hHe, hLe]; exact hS
  have hP : va_P D vwCl (wRd K hRd aTp rRd4 sRd ++ [(aTp, .inl (K 2, nTp, .inl fTp))]) H := by rw [hHe]; exact hP
  have hgo : W p l e (headSpec wz_X7_passWhole r_X7_passWhole).room s m args below meth c H locs 0 0 Q (F0 m 0 ls []) := by
    refine lv_aload_n hx hb dX7_passWhole_0 rfl (lv_at hl 0 rfl) ?_
    refine va_get (D := D) (ci := 6) (v := .int (sRd.1 5)) (C := RX7) (T := TX7) (N := 11) hx hb hts iX7 hown hK hP 0 rfl rfl 5 (by decide) (htl _ (mB8 _ (List.mem_of_getElem? (i := 7) rfl))) (fun _ h9 => h9) rfl dX7_passWhole_1 ?_
    refine lv_iconst (v := (2 : Int32)) hx hb dX7_passWhole_4 (by decide) ?_
    refine lv_icmp_eq (tgt := 14) hx hb dX7_passWhole_5 (by decide) (fun c1 => ?_) (fun c1 => ?_)
    · have hf := it_t hf c1
      refine lv_aload_n hx hb dX7_passWhole_14 rfl (lv_at hl 0 rfl) ?_
      refine lv_iconst (v := (0 : Int32)) hx hb dX7_passWhole_15 (by decide) ?_
      refine va_put (D := D) (ci := 6) (v := .int (0 : Int32)) (ty := .int) (C := RX7) (T := TX7) (N := 11) hx hb hts iX7 tyX7 tyX7_ok nmX7 hown hK hP hD hS 0 rfl rfl 8 (by decide) (htl _ (mB12 _ (List.mem_of_getElem? (i := 17) rfl))) (fun _ h9 => h9) rfl (by decide +kernel) rfl rfl (Nat.le_of_ble_eq_true rfl) dX7_passWhole_16 (fun H locs hP hD hS => ?_)
      obtain ⟨s2, es2⟩ : ∃ z, z = sI sRd 8 (0 : Int32) := ⟨_, rfl⟩
      have hP : va_P D vwCl (wRd K hRd aTp rRd4 s2 ++ [(aTp, .inl (K 2, nTp, .inl fTp))]) H := by rw [es2]; exact hP
      have hD : va_D A (wRd K hRd aTp rRd4 s2 ++ [(aTp, .inl (K 2, nTp, .inl fTp))]) := by rw [es2]; exact hD
      have hf := lz_s hf s2 es2
      refine lv_aload_n hx hb dX7_passWhole_19 rfl (lv_at hl 0 rfl) ?_
      refine va_get (D := D) (ci := 6) (v := .int (s2.1 6)) (C := RX7) (T := TX7) (N := 11) hx hb hts iX7 hown hK hP 0 rfl rfl 6 (by decide) (htl _ (mB9 _ (List.mem_of_getElem? (i := 6) rfl))) (fun _ h9 => h9) rfl dX7_passWhole_20 ?_
      refine lv_istore_n (lv' := [(3, .int (s2.1 6)), (0, .ref (hRd 99)), (1, .int p1), (2, .int p2)]) hx hb dX7_passWhole_23 rfl hl (by decide) rfl (fun ls hl => ?_)
      exact w24 F (s2.1 6) s2 H locs ls hf hP hD hS (lv_sub hl [1, 2, 3, 0] rfl)
    · have hf := it_f hf c1
      refine lv_aload_n hx hb dX7_passWhole_8 rfl (lv_at hl 0 rfl) ?_
      refine lv_iconst (v := (1 : Int32)) hx hb dX7_passWhole_9 (by decide) ?_
      obtain ⟨o3, go3, hf⟩ := bd_s hf
      refine rw_Vi (wn := wRd K hRd aTp rRd4 o3.2 ++ [(aTp, .inl (K 2, nTp, .inl fTp))]) (As := [.int (1 : Int32)]) (rest := []) ⟨hx, hb, hml, hown, hts⟩ (c_X7_failWith l D K F hRd aTp rRd4 H.size sRd (1 : Int32) o3 go3) (cwV 1 hts (gcV_X7_failWith (mB12 _ (List.mem_of_getElem? (i := 5) rfl))) rfl rfl rfl hdV_X7_failWith ⟨Nat.le_of_ble_eq_true rfl, Nat.le_of_ble_eq_true rfl⟩) hK hP hD hS hA [0, 1, 2] [3] [1, 2, 3, 0] rfl rfl (by decide) (by decide) (by decide) rfl (by decide) (va_recv hK hP (ci := 6) (q0 := 0) rfl rfl) rfl hl.1 rfl (Nat.le_of_ble_eq_true rfl) dX7_passWhole_10 ⟨Nat.zero_le _, Nat.zero_le _⟩ (fun H locs hP hD hS => ?_)
      have hP : va_P D vwCl (wRd K hRd aTp rRd4 o3.2 ++ [(aTp, .inl (K 2, nTp, .inl fTp))]) H := hP
      have hD : va_D A (wRd K hRd aTp rRd4 o3.2 ++ [(aTp, .inl (K 2, nTp, .inl fTp))]) := hD
      obtain ⟨g4, hf⟩ := gd_s hf
      have e9 := Option.some.inj hf
      rw [hQ]
      exact W.zret (v := o3.1) hx hb hr (bob_s g4) (fun t ht hW => ⟨⟨o3.1, o3.2, rfl, ⟨pr1 e9, pr2 e9⟩, ⟨by rw [ht]; exact hP, va_K.moved hW.alike hK, hD⟩⟩, hS.F ht⟩) hS.2.2 dX7_passWhole_13
  rw [hHe] at hgo
  exact hgo

def wz_X7_isSign : List Cond := .code yX7_isSign cX7_isSign 2 (some .boolean) :: wsL_law
abbrev r_X7_isSign : Room := { frames := 0, cells := 0, slots := 0, locals := 0 }
set_option maxHeartbeats 4000000 in
set_option maxRecDepth 100000 in
theorem c_X7_isSign (l : Launch) (D : va_G) (K : Nat → ClassId) (F : Nat) (hRd : Nat → Nat) (rRd4 : Nat) (aTp nTp : Nat) (sRd : MS) (fTp : (Nat → Int32)) (p1 : Int32) (res : Int32) (hf : f_X7_isSign F sRd nTp fTp p1 = some res) : Met l yX7_isSign wz_X7_isSign r_X7_isSign (va_Pc [.ref (hRd 99), .int p1] (PR D K (wRd K hRd aTp rRd4 sRd ++ [(aTp, .inl (K 2, nTp, .inl fTp))]))) (va_Qi (fun r (_ : Unit) => r = res) BN nOne) 0 0 nOne := by
  refine Met.ofW (cc := cX7_isSign) (maxL := 2) (ret := (some .boolean)) (by decide) rfl ?_
  intro p e s m args below meth c s₁ B hml hv
  obtain ⟨hargs, hP, hK⟩ := hv
  have hx := B.exec
  have hb := B.bytes
  have hr := B.returns
  have hts := atoms_spec (ws := wz_X7_isSign) B.pre
  have htl : ∀ w ∈ wsL_law, w.before args s = true := fun w h => hts w (List.mem_cons_of_mem _ h)
  have hown : s.vm.findClass RX7 = some m.cls := findClass_of_methodNamed B.named
  have hlocks := B.notSynchronized
  have hS : va_S nOne s.heap s.heap [] := va_S.rf
  have iX7 : ∀ w ∈ wsX70, w ∈ wz_X7_isSign := fun w h => List.mem_cons_of_mem _ (inlX7 w h)
  suffices hgo : ∀ Q : State → Prop, Q = MQ below (va_Qi (fun r (_ : Unit) => r = res) BN nOne) args s 0 0 nOne → W p l e (headSpec wz_X7_isSign r_X7_isSign).room s m args below meth c s.heap [] 0 0 Q (entryFrame m args 2) from hgo _ rfl
  intro Q hQ
  have hen : entryFrame m args 2 = entryFrame m (([.ref (hRd 99), .int p1] : List Value).toArray) 2 := by rw [hargs]
  have hl := lv_entry ([.ref (hRd 99), .int p1]) (n := 2) (Nat.le_of_ble_eq_true rfl)
  rw [hen, lg_entry_eq]
  generalize (lg_sl ([.ref (hRd 99), .int p1]) ++ List.replicate (2 - (lg_sl ([.ref (hRd 99), .int p1])).length) Slot.unset).toArray = ls at hl ⊢
  have hl : lv_has ls 2 [(0, .ref (hRd 99)), (1, .int p1)] := hl
  unfold f_X7_isSign at hf
  obtain ⟨H, hHe⟩ : ∃ z, z = s.heap := ⟨_, rfl⟩
  obtain ⟨locs, hLe⟩ : ∃ z : List Loc, z = [] := ⟨_, rfl⟩
  rw [← hLe]
  have hS : va_S nOne s.heap H locs := by rw [hHe, hLe]; exact hS
  have hP : va_P D vwCl (wRd K hRd aTp rRd4 sRd ++ [(aTp, .inl (K 2, nTp, .inl fTp))]) H := by rw [hHe]; exact hP
  have hgo : W p l e (headSpec wz_X7_isSign r_X7_isSign).room s m args below meth c H locs 0 0 Q (F0 m 0 ls []) := by
    refine lv_aload_n hx hb dX7_isSign_0 rfl (lv_at hl 0 rfl) ?_
    refine va_get (D := D) (ci := 6) (v := .int (sRd.1 5)) (C := RX7) (T := TX7) (N := 11) hx hb hts iX7 hown hK hP 0 rfl rfl 5 (by decide) (htl _ (mB8 _ (List.mem_of_getElem? (i := 7) rfl))) (fun _ h9 => h9) rfl dX7_isSign_1 ?_
    refine lv_iconst (v := (3 : Int32)) hx hb dX7_isSign_4 (by decide) ?_
    refine lv_icmp_ne (tgt := 25) hx hb dX7_isSign_5 (by decide) (fun c1 => ?_) (fun c1 => ?_)
    · have hf := it_f hf c1
      refine lv_iconst (v := (0 : Int32)) hx hb dX7_isSign_25 (by decide) ?_
      have e9 := Option.some.inj hf
      rw [hQ]
      exact W.zret (v := (0 : Int32)) hx hb hr rfl (fun t ht hW => ⟨⟨(0 : Int32), (), rfl, e9, trivial⟩, hS.F ht⟩) hS.2.2 dX7_isSign_26
    · have hf := it_t hf c1
      refine lv_aload_n hx hb dX7_isSign_8 rfl (lv_at hl 0 rfl) ?_
      refine va_get (D := D) (ci := 6) (v := .ref aTp) (C := RX7) (T := TX7) (N := 11) hx hb hts iX7 hown hK hP 0 rfl rfl 2 (by decide) (htl _ (mB3 _ (List.mem_of_getElem? (i := 16) rfl))) (fun _ h9 => h9) rfl dX7_isSign_9 ?_
      refine lv_aload_n hx hb dX7_isSign_12 rfl (lv_at hl 0 rfl) ?_
      refine va_get (D := D) (ci := 6) (v := .int (sRd.1 6)) (C := RX7) (T := TX7) (N := 11) hx hb hts iX7 hown hK hP 0 rfl rfl 6 (by decide) (htl _ (mB9 _ (List.mem_of_getElem? (i := 6) rfl))) (fun _ h9 => h9) rfl dX7_isSign_13 ?_
      obtain ⟨g2, hf⟩ := gd_s hf
      refine va_bald hx hb hK hP 3 2 (f := fTp) rfl rfl (vpb_in g2) dX7_isSign_16 ?_
      refine lv_iload_n hx hb dX7_isSign_17 rfl (lv_at hl 1 rfl) ?_
      refine lv_icmp_ne (tgt := 25) hx hb dX7_isSign_18 (by decide) (fun c3 => ?_) (fun c3 => ?_)
      · have hf := it_f hf c3
        refine lv_iconst (v := (0 : Int32)) hx hb dX7_isSign_25 (by decide) ?_
        have e9 := Option.some.inj hf
        rw [hQ]
        exact W.zret (v := (0 : Int32)) hx hb hr rfl (fun t ht hW => ⟨⟨(0 : Int32), (), rfl, e9, trivial⟩, hS.F ht⟩) hS.2.2 dX7_isSign_26
      · have hf := it_t hf c3
        refine lv_iconst (v := (1 : Int32)) hx hb dX7_isSign_21 (by decide) ?_
        refine lv_goto (tgt := 26) hx hb dX7_isSign_22 (by decide) ?_
        have e9 := Option.some.inj hf
        rw [hQ]
        exact W.zret (v := (1 : Int32)) hx hb hr rfl (fun t ht hW => ⟨⟨(1 : Int32), (), rfl, e9, trivial⟩, hS.F ht⟩) hS.2.2 dX7_isSign_26
  rw [hHe] at hgo
  exact hgo

theorem gcV_X7_isSign {T0 : Cond} {own : String} {i : Nat} (h : Cond.methodLink own i yX7_isSign ∈ wsL_law) : GoodIn (T0 :: wsL_law) (wsV own i RX7 yX7_isSign wz_X7_isSign) := gV h (mB13 _ (List.mem_of_getElem? (i := 11) rfl)) (mB13 _ (List.mem_of_getElem? (i := 12) rfl)) (mB1 _ (List.mem_of_getElem? (i := 22) rfl)) (mB13 _ (List.mem_of_getElem? (i := 13) rfl))
theorem hdV_X7_isSign : yX7_isSign.cls = RX7 ∧ yX7_isSign.cls ≠ "java/lang/invoke/MethodHandle" ∧ yX7_isSign.cls ≠ "java/lang/invoke/VarHandle" ∧ (parseMethodDescriptor yX7_isSign.desc).map (fun d => d.parameters.length) = some 1 := by decide +kernel
def wz_X7_passSign : List Cond := .code yX7_passSign cX7_passSign 2 (some .boolean) :: wsL_law
abbrev r_X7_passSign : Room := { frames := 2, cells := 0, slots := 0, locals := 46 }
set_option maxHeartbeats 4000000 in
set_option maxRecDepth 100000 in
theorem c_X7_passSign (l : Launch) (D : va_G) (K : Nat → ClassId) (F : Nat) (hRd : Nat → Nat) (rRd4 : Nat) (aTp nTp : Nat) (sz : Nat) (sRd : MS) (fTp : (Nat → Int32)) (p1 : Int32) (res : Int32 × MS) (hf : f_X7_passSign F nTp fTp p1 sRd = some res) : Met l yX7_passSign wz_X7_passSign r_X7_passSign (va_Pc [.ref (hRd 99), .int p1] (PW D K (wRd K hRd aTp rRd4 sRd ++ [(aTp, .inl (K 2, nTp, .inl fTp))]) sz)) (va_Qi (fun r u => r = res.1 ∧ u = res.2) (fun u t => BW D K (va_A (wRd K hRd aTp rRd4 sRd ++ [(aTp, .inl (K 2, nTp, .inl fTp))]) sz) (wRd K hRd aTp rRd4 u ++ [(aTp, .inl (K 2, nTp, .inl fTp))]) t) (va_A (wRd K hRd aTp rRd4 sRd ++ [(aTp, .inl (K 2, nTp, .inl fTp))]) sz)) 0 0 (va_A (wRd K hRd aTp rRd4 sRd ++ [(aTp, .inl (K 2, nTp, .inl fTp))]) sz) := by
  refine Met.ofW (cc := cX7_passSign) (maxL := 2) (ret := (some .boolean)) (by decide) rfl ?_
  intro p e s m args below meth c s₁ B hml hv
  obtain ⟨hargs, hsz, hP, hK, hD0⟩ := hv
  have hx := B.exec
  have hb := B.bytes
  have hr := B.returns
  have hts := atoms_spec (ws := wz_X7_passSign) B.pre
  have htl : ∀ w ∈ wsL_law, w.before args s = true := fun w h => hts w (List.mem_cons_of_mem _ h)
  have hown : s.vm.findClass RX7 = some m.cls := findClass_of_methodNamed B.named
  have hlocks := B.notSynchronized
  subst hsz
  have hD := hD0.self (sz := s.heap.size)
  generalize hAe : va_A (wRd K hRd aTp rRd4 sRd ++ [(aTp, .inl (K 2, nTp, .inl fTp))]) s.heap.size = A at hD ⊢
  have hA : ∀ q : Nat, s.heap.size ≤ q → A q := fun q h => by rw [← hAe]; exact Or.inr h
  have hS : va_S A s.heap s.heap [] := va_S.rf
  suffices hgo : ∀ Q : State → Prop, Q = MQ below (va_Qi (fun r u => r = res.1 ∧ u = res.2) (fun u t => BW D K A (wRd K hRd aTp rRd4 u ++ [(aTp, .inl (K 2, nTp, .inl fTp))]) t) A) args s 0 0 A → W p l e (headSpec wz_X7_passSign r_X7_passSign).room s m args below meth c s.heap [] 0 0 Q (entryFrame m args 2) from hgo _ rfl
  intro Q hQ
  have hen : entryFrame m args 2 = entryFrame m (([.ref (hRd 99), .int p1] : List Value).toArray) 2 := by rw [hargs]
  have hl := lv_entry ([.ref (hRd 99), .int p1]) (n := 2) (Nat.le_of_ble_eq_true rfl)
  rw [hen, lg_entry_eq]
  generalize (lg_sl ([.ref (hRd 99), .int p1]) ++ List.replicate (2 - (lg_sl ([.ref (hRd 99), .int p1])).length) Slot.unset).toArray = ls at hl ⊢
  have hl : lv_has ls 2 [(0, .ref (hRd 99)), (1, .int p1)] := hl
  unfold f_X7_passSign at hf
  obtain ⟨H, hHe⟩ : ∃ z, z = s.heap := ⟨_, rfl⟩
  obtain ⟨locs, hLe⟩ : ∃ z : List Loc, z = [] := ⟨_, rfl⟩
  rw [← hLe]
  have hS : va_S A s.heap H locs := by rw [hHe, hLe]; exact hS
  have hP : va_P D vwCl (wRd K hRd aTp rRd4 sRd ++ [(aTp, .inl (K 2, nTp, .inl fTp))]) H := by rw [hHe]; exact hP
  have hgo : W p l e (headSpec wz_X7_passSign r_X7_passSign).room s m args below meth c H locs 0 0 Q (F0 m 0 ls []) := by
    refine lv_aload_n hx hb dX7_passSign_0 rfl (lv_at hl 0 rfl) ?_
    refine lv_iload_n hx hb dX7_passSign_1 rfl (lv_at hl 1 rfl) ?_
    obtain ⟨o1, go1, hf⟩ := bd_s hf
    refine ro_Vi (As := [.int p1]) (rest := []) ⟨hx, hb, hml, hown, hts⟩ (c_X7_isSign l D K F hRd rRd4 aTp nTp sRd fTp p1 o1 go1) (cwV 1 hts (gcV_X7_isSign (mB13 _ (List.mem_of_getElem? (i := 10) rfl))) rfl rfl rfl hdV_X7_isSign ⟨Nat.le_of_ble_eq_true rfl, Nat.le_of_ble_eq_true rfl⟩) hK hP hS hP (va_recv hK hP (ci := 6) (q0 := 0) rfl rfl) rfl hl.1 rfl (Nat.le_of_ble_eq_true rfl) dX7_passSign_2 ⟨Nat.zero_le _, Nat.zero_le _⟩ (fun H locs hP hS => ?_)
    refine lv_if_ne (tgt := 14) hx hb dX7_passSign_5 (by decide) (fun c2 => ?_) (fun c2 => ?_)
    · have hf := it_f hf c2
      refine lv_aload_n hx hb dX7_passSign_14 rfl (lv_at hl 0 rfl) ?_
      obtain ⟨o3, go3, hf⟩ := bd_s hf
      refine rs_Vv (As := []) (rest := []) ⟨hx, hb, hml, hown, hts⟩ (c_X7_lookOn l D K F hRd rRd4 aTp nTp H.size sRd fTp o3 go3) (cwV 0 hts (gcV_X7_lookOn (mB9 _ (List.mem_of_getElem? (i := 2) rfl))) rfl rfl rfl hdV_X7_lookOn ⟨Nat.le_of_ble_eq_true rfl, Nat.le_of_ble_eq_true rfl⟩) hK hP hD hS hA (va_recv hK hP (ci := 6) (q0 := 0) rfl rfl) rfl hl.1 rfl (Nat.le_of_ble_eq_true rfl) dX7_passSign_15 ⟨Nat.zero_le _, Nat.zero_le _⟩ (fun H locs hP hD hS => ?_)
      have hP : va_P D vwCl (wRd K hRd aTp rRd4 o3 ++ [(aTp, .inl (K 2, nTp, .inl fTp))]) H := hP
      have hD : va_D A (wRd K hRd aTp rRd4 o3 ++ [(aTp, .inl (K 2, nTp, .inl fTp))]) := hD
      refine lv_iconst (v := (1 : Int32)) hx hb dX7_passSign_18 (by decide) ?_
      have e9 := Option.some.inj hf
      rw [hQ]
      exact W.zret (v := (1 : Int32)) hx hb hr rfl (fun t ht hW => ⟨⟨(1 : Int32), o3, rfl, ⟨pr1 e9, pr2 e9⟩, ⟨by rw [ht]; exact hP, va_K.moved hW.alike hK, hD⟩⟩, hS.F ht⟩) hS.2.2 dX7_passSign_19
    · have hf := it_t hf c2
      refine lv_aload_n hx hb dX7_passSign_8 rfl (lv_at hl 0 rfl) ?_
      refine lv_iconst (v := (1 : Int32)) hx hb dX7_passSign_9 (by decide) ?_
      obtain ⟨o4, go4, hf⟩ := bd_s hf
      refine rw_Vi (wn := wRd K hRd aTp rRd4 o4.2 ++ [(aTp, .inl (K 2, nTp, .inl fTp))]) (As := [.int (1 : Int32)]) (rest := []) ⟨hx, hb, hml, hown, hts⟩ (c_X7_failWith l D K F hRd aTp rRd4 H.size sRd (1 : Int32) o4 go4) (cwV 1 hts (gcV_X7_failWith (mB12 _ (List.mem_of_getElem? (i := 5) rfl))) rfl rfl rfl hdV_X7_failWith ⟨Nat.le_of_ble_eq_true rfl, Nat.le_of_ble_eq_true rfl⟩) hK hP hD hS hA [0, 1, 2] [3] [1, 2, 3, 0] rfl rfl (by decide) (by decide) (by decide) rfl (by decide) (va_recv hK hP (ci := 6) (q0 := 0) rfl rfl) rfl hl.1 rfl (Nat.le_of_ble_eq_true rfl) dX7_passSign_10 ⟨Nat.zero_le _, Nat.zero_le _⟩ (fun H locs hP hD hS => ?_)
      have hP : va_P D vwCl (wRd K hRd aTp rRd4 o4.2 ++ [(aTp, .inl (K 2, nTp, .inl fTp))]) H := hP
      have hD : va_D A (wRd K hRd aTp rRd4 o4.2 ++ [(aTp, .inl (K 2, nTp, .inl fTp))]) := hD
      obtain ⟨g5, hf⟩ := gd_s hf
      have e9 := Option.some.inj hf
      rw [hQ]
      exact W.zret (v := o4.1) hx hb hr (bob_s g5) (fun t ht hW => ⟨⟨o4.1, o4.2, rfl, ⟨pr1 e9, pr2 e9⟩, ⟨by rw [ht]; exact hP, va_K.moved hW.alike hK, hD⟩⟩, hS.F ht⟩) hS.2.2 dX7_passSign_13
  rw [hHe] at hgo
  exact hgo

def wz_X7_isSameName : List Cond := .code yX7_isSameName cX7_isSameName 4 (some .boolean) :: wsL_law
abbrev r_X7_isSameName : Room := { frames := 0, cells := 0, slots := 0, locals := 0 }
set_option maxHeartbeats 4000000 in
set_option maxRecDepth 100000 in
theorem c_X7_isSameName (l : Launch) (D : va_G) (K : Nat → ClassId) (F : Nat) (hRd : Nat → Nat) (rRd4 : Nat) (aTp nTp : Nat) (sRd : MS) (fTp : (Nat → Int32)) (p1 : Int32) (res : Int32) (hf : f_X7_isSameName F sRd nTp fTp p1 = some res) : Met l yX7_isSameName wz_X7_isSameName r_X7_isSameName (va_Pc [.ref (hRd 99), .int p1] (PR D K (wRd K hRd aTp rRd4 sRd ++ [(aTp, .inl (K 2, nTp, .inl fTp))]))) (va_Qi (fun r (_ : Unit) => r = res) BN nOne) 0 0 nOne := by
  refine Met.ofW (cc := cX7_isSameName) (maxL := 4) (ret := (some .boolean)) (by decide) rfl ?_
  intro p e s m args below meth c s₁ B hml hv
  obtain ⟨hargs, hP, hK⟩ := hv
  have hx := B.exec
  have hb := B.bytes
  have hr := B.returns
  have hts := atoms_spec (ws := wz_X7_isSameName) B.pre
  have htl : ∀ w ∈ wsL_law, w.before args s = true := fun w h => hts w (List.mem_cons_of_mem _ h)
  have hown : s.vm.findClass RX7 = some m.cls := findClass_of_methodNamed B.named
  have hlocks := B.notSynchronized
  have hS : va_S nOne s.heap s.heap [] := va_S.rf
  have iX7 : ∀ w ∈ wsX70, w ∈ wz_X7_isSameName := fun w h => List.mem_cons_of_mem _ (inlX7 w h)
  suffices hgo : ∀ Q : State → Prop, Q = MQ below (va_Qi (fun r (_ : Unit) => r = res) BN nOne) args s 0 0 nOne → W p l e (headSpec wz_X7_isSameName r_X7_isSameName).room s m args below meth c s.heap [] 0 0 Q (entryFrame m args 4) from hgo _ rfl
  intro Q hQ
  have w31 : ∀ (n : Nat), ∀ (x2 : Int32), ∀ (x3 : Int32), ∀ (H : Heap) (locs : List Loc) (ls : Array Slot), f_X7_isSameName_31 F sRd nTp fTp p1 n x2 x3 = some res → va_P D vwCl (wRd K hRd aTp rRd4 sRd ++ [(aTp, .inl (K 2, nTp, .inl fTp))]) H → va_S nOne s.heap H locs → lv_has ls 4 [(0, .ref (hRd 99)), (1, .int p1), (2, .int x2), (3, .int x3)] → W p l e (headSpec wz_X7_isSameName r_X7_isSameName).room s m args below meth c H locs 0 0 Q (F0 m 31 ls []) := by
    intro n
    induction n with
    | zero =>
      intro x2 x3 H locs ls hf
      exact absurd (show none = some res from hf) (fun h => nomatch h)
    | succ n ih =>
      intro x2 x3 H locs ls hf hP hS hl
      rw [f_X7_isSameName_31] at hf
      refine lv_iload_n hx hb dX7_isSameName_31 rfl (lv_at hl 3 rfl) ?_
      refine lv_iload_n hx hb dX7_isSameName_32 rfl (lv_at hl 2 rfl) ?_
      refine lv_icmp_ge (tgt := 71) hx hb dX7_isSameName_33 (by decide) (fun c6 => ?_) (fun c6 => ?_)
      · have hf := it_t hf c6
        refine lv_iconst (v := (1 : Int32)) hx hb dX7_isSameName_71 (by decide) ?_
        have e9 := Option.some.inj hf
        rw [hQ]
        exact W.zret (v := (1 : Int32)) hx hb hr rfl (fun t ht hW => ⟨⟨(1 : Int32), (), rfl, e9, trivial⟩, hS.F ht⟩) hS.2.2 dX7_isSameName_72
      · have hf := it_f hf c6
        refine lv_aload_n hx hb dX7_isSameName_36 rfl (lv_at hl 0 rfl) ?_
        refine va_get (D := D) (ci := 6) (v := .ref aTp) (C := RX7) (T := TX7) (N := 11) hx hb hts iX7 hown hK hP 0 rfl rfl 2 (by decide) (htl _ (mB3 _ (List.mem_of_getElem? (i := 16) rfl))) (fun _ h9 => h9) rfl dX7_isSameName_37 ?_
        refine lv_aload_n hx hb dX7_isSameName_40 rfl (lv_at hl 0 rfl) ?_
        refine va_get (D := D) (ci := 6) (v := .ref (hRd 9)) (C := RX7) (T := TX7) (N := 11) hx hb hts iX7 hown hK hP 0 rfl rfl 9 (by decide) (htl _ (mB3 _ (List.mem_of_getElem? (i := 19) rfl))) (fun _ h9 => h9) rfl dX7_isSameName_41 ?_
        refine lv_iload_n hx hb dX7_isSameName_44 rfl (lv_at hl 1 rfl) ?_
        obtain ⟨g7, hf⟩ := gd_s hf
        refine va_iald hx hb hK hP 1 0 (f := sRd.2.2.1 9) rfl rfl (vpb_in g7) dX7_isSameName_45 ?_
        refine lv_iload_n hx hb dX7_isSameName_46 rfl (lv_at hl 3 rfl) ?_
        refine lv_iadd hx hb dX7_isSameName_47 ?_
        obtain ⟨g8, hf⟩ := gd_s hf
        refine va_bald hx hb hK hP 3 2 (f := fTp) rfl rfl (vpb_in g8) dX7_isSameName_48 ?_
        refine lv_topi (fun v9 ev9 => ?_)
        have hf := lz_s hf v9 ev9
        refine lv_aload_n hx hb dX7_isSameName_49 rfl (lv_at hl 0 rfl) ?_
        refine va_get (D := D) (ci := 6) (v := .ref aTp) (C := RX7) (T := TX7) (N := 11) hx hb hts iX7 hown hK hP 0 rfl rfl 2 (by decide) (htl _ (mB3 _ (List.mem_of_getElem? (i := 16) rfl))) (fun _ h9 => h9) rfl dX7_isSameName_50 ?_
        refine lv_aload_n hx hb dX7_isSameName_53 rfl (lv_at hl 0 rfl) ?_
        refine va_get (D := D) (ci := 6) (v := .int (sRd.1 6)) (C := RX7) (T := TX7) (N := 11) hx hb hts iX7 hown hK hP 0 rfl rfl 6 (by decide) (htl _ (mB9 _ (List.mem_of_getElem? (i := 6) rfl))) (fun _ h9 => h9) rfl dX7_isSameName_54 ?_
        refine lv_iload_n hx hb dX7_isSameName_57 rfl (lv_at hl 3 rfl) ?_
        refine lv_iadd hx hb dX7_isSameName_58 ?_
        obtain ⟨g10, hf⟩ := gd_s hf
        refine va_bald hx hb hK hP 3 2 (f := fTp) rfl rfl (vpb_in g10) dX7_isSameName_59 ?_
        refine lv_topi (fun v11 ev11 => ?_)
        have hf := lz_s hf v11 ev11
        refine lv_icmp_eq (tgt := 65) hx hb dX7_isSameName_60 (by decide) (fun c12 => ?_) (fun c12 => ?_)
        · have hf := it_t hf c12
          obtain ⟨v13, ev13⟩ : ∃ z : Int32, z = x3 + (1 : Int32) := ⟨_, rfl⟩
          have hf := lz_s hf v13 ev13
          refine lv_iinc (v := v13) (lv' := [(3, .int v13), (0, .ref (hRd 99)), (1, .int p1), (2, .int x2)]) hx hb dX7_isSameName_65 hl (k := 3) rfl (by rw [ev13]; rfl) (by decide) rfl (fun ls hl => ?_)
          refine lv_goto (tgt := 31) hx hb dX7_isSameName_68 (by decide) ?_
          exact ih x2 v13 H locs ls hf hP hS (lv_sub hl [1, 2, 3, 0] rfl)
        · have hf := it_f hf c12
          refine lv_iconst (v := (0 : Int32)) hx hb dX7_isSameName_63 (by decide) ?_
          have e9 := Option.some.inj hf
          rw [hQ]
          exact W.zret (v := (0 : Int32)) hx hb hr rfl (fun t ht hW => ⟨⟨(0 : Int32), (), rfl, e9, trivial⟩, hS.F ht⟩) hS.2.2 dX7_isSameName_64
  have hen : entryFrame m args 4 = entryFrame m (([.ref (hRd 99), .int p1] : List Value).toArray) 4 := by rw [hargs]
  have hl := lv_entry ([.ref (hRd 99), .int p1]) (n := 4) (Nat.le_of_ble_eq_true rfl)
  rw [hen, lg_entry_eq]
  generalize (lg_sl ([.ref (hRd 99), .int p1]) ++ List.replicate (4 - (lg_sl ([.ref (hRd 99), .int p1])).length) Slot.unset).toArray = ls at hl ⊢
  have hl : lv_has ls 4 [(0, .ref (hRd 99)), (1, .int p1)] := hl
  unfold f_X7_isSameName at hf
  obtain ⟨H, hHe⟩ : ∃ z, z = s.heap := ⟨_, rfl⟩
  obtain ⟨locs, hLe⟩ : ∃ z : List Loc, z = [] := ⟨_, rfl⟩
  rw [← hLe]
  have hS : va_S nOne s.heap H locs := by rw [hHe, hLe]; exact hS
  have hP : va_P D vwCl (wRd K hRd aTp rRd4 sRd ++ [(aTp, .inl (K 2, nTp, .inl fTp))]) H := by rw [hHe]; exact hP
  have hgo : W p l e (headSpec wz_X7_isSameName r_X7_isSameName).room s m args below meth c H locs 0 0 Q (F0 m 0 ls []) := by
    refine lv_aload_n hx hb dX7_isSameName_0 rfl (lv_at hl 0 rfl) ?_
    refine va_get (D := D) (ci := 6) (v := .ref (hRd 10)) (C := RX7) (T := TX7) (N := 11) hx hb hts iX7 hown hK hP 0 rfl rfl 10 (by decide) (htl _ (mB3 _ (List.mem_of_getElem? (i := 20) rfl))) (fun _ h9 => h9) rfl dX7_isSameName_1 ?_
    refine lv_iload_n hx hb dX7_isSameName_4 rfl (lv_at hl 1 rfl) ?_
    obtain ⟨g1, hf⟩ := gd_s hf
    refine va_iald hx hb hK hP 2 0 (f := sRd.2.2.1 10) rfl rfl (vpb_in g1) dX7_isSameName_5 ?_
    refine lv_topi (fun v2 ev2 => ?_)
    have hf := lz_s hf v2 ev2
    refine lv_aload_n hx hb dX7_isSameName_6 rfl (lv_at hl 0 rfl) ?_
    refine va_get (D := D) (ci := 6) (v := .ref (hRd 9)) (C := RX7) (T := TX7) (N := 11) hx hb hts iX7 hown hK hP 0 rfl rfl 9 (by decide) (htl _ (mB3 _ (List.mem_of_getElem? (i := 19) rfl))) (fun _ h9 => h9) rfl dX7_isSameName_7 ?_
    refine lv_iload_n hx hb dX7_isSameName_10 rfl (lv_at hl 1 rfl) ?_
    obtain ⟨g3, hf⟩ := gd_s hf
    refine va_iald hx hb hK hP 1 0 (f := sRd.2.2.1 9) rfl rfl (vpb_in g3) dX7_isSameName_11 ?_
    refine lv_isub hx hb dX7_isSameName_12 ?_
    refine lv_topi (fun v4 ev4 => ?_)
    have hf := lz_s hf v4 ev4
    refine lv_istore_n (lv' := [(2, .int v4), (0, .ref (hRd 99)), (1, .int p1)]) hx hb dX7_isSameName_13 rfl hl (by decide) rfl (fun ls hl => ?_)
    refine lv_iload_n hx hb dX7_isSameName_14 rfl (lv_at hl 0 rfl) ?_
    refine lv_aload_n hx hb dX7_isSameName_15 rfl (lv_at hl 1 rfl) ?_
    refine va_get (D := D) (ci := 6) (v := .int (sRd.1 7)) (C := RX7) (T := TX7) (N := 11) hx hb hts iX7 hown hK hP 0 rfl rfl 7 (by decide) (htl _ (mB8 _ (List.mem_of_getElem? (i := 6) rfl))) (fun _ h9 => h9) rfl dX7_isSameName_16 ?_
    refine lv_aload_n hx hb dX7_isSameName_19 rfl (lv_at hl 1 rfl) ?_
    refine va_get (D := D) (ci := 6) (v := .int (sRd.1 6)) (C := RX7) (T := TX7) (N := 11) hx hb hts iX7 hown hK hP 0 rfl rfl 6 (by decide) (htl _ (mB9 _ (List.mem_of_getElem? (i := 6) rfl))) (fun _ h9 => h9) rfl dX7_isSameName_20 ?_
    refine lv_isub hx hb dX7_isSameName_23 ?_
    refine lv_icmp_eq (tgt := 29) hx hb dX7_isSameName_24 (by decide) (fun c5 => ?_) (fun c5 => ?_)
    · have hf := it_t hf c5
      refine lv_iconst (v := (0 : Int32)) hx hb dX7_isSameName_29 (by decide) ?_
      refine lv_istore_n (lv' := [(3, .int (0 : Int32)), (2, .int v4), (0, .ref (hRd 99)), (1, .int p1)]) hx hb dX7_isSameName_30 rfl hl (by decide) rfl (fun ls hl => ?_)
      exact w31 F v4 (0 : Int32) H locs ls hf hP hS (lv_sub hl [2, 3, 1, 0] rfl)
    · have hf := it_f hf c5
      refine lv_iconst (v := (0 : Int32)) hx hb dX7_isSameName_27 (by decide) ?_
      have e9 := Option.some.inj hf
      rw [hQ]
      exact W.zret (v := (0 : Int32)) hx hb hr rfl (fun t ht hW => ⟨⟨(0 : Int32), (), rfl, e9, trivial⟩, hS.F ht⟩) hS.2.2 dX7_isSameName_28
  rw [hHe] at hgo
  exact hgo

theorem gcV_X7_isSameName {T0 : Cond} {own : String} {i : Nat} (h : Cond.methodLink own i yX7_isSameName ∈ wsL_law) : GoodIn (T0 :: wsL_law) (wsV own i RX7 yX7_isSameName wz_X7_isSameName) := gV h (mB14 _ (List.mem_of_getElem? (i := 3) rfl)) (mB14 _ (List.mem_of_getElem? (i := 4) rfl)) (mB1 _ (List.mem_of_getElem? (i := 22) rfl)) (mB14 _ (List.mem_of_getElem? (i := 5) rfl))
theorem hdV_X7_isSameName : yX7_isSameName.cls = RX7 ∧ yX7_isSameName.cls ≠ "java/lang/invoke/MethodHandle" ∧ yX7_isSameName.cls ≠ "java/lang/invoke/VarHandle" ∧ (parseMethodDescriptor yX7_isSameName.desc).map (fun d => d.parameters.length) = some 1 := by decide +kernel
def wz_X7_placeNamed : List Cond := .code yX7_placeNamed cX7_placeNamed 2 (some .int) :: wsL_law
abbrev r_X7_placeNamed : Room := { frames := 1, cells := 0, slots := 0, locals := 23 }
set_option maxHeartbeats 4000000 in
set_option maxRecDepth 100000 in
theorem c_X7_placeNamed (l : Launch) (D : va_G) (K : Nat → ClassId) (F : Nat) (hRd : Nat → Nat) (aTp nTp : Nat) (hRo : Nat → Nat) (sRd : MS) (fTp : (Nat → Int32)) (sRo : MS) (res : Int32) (hf : f_X7_placeNamed F sRd nTp fTp sRo = some res) : Met l yX7_placeNamed wz_X7_placeNamed r_X7_placeNamed (va_Pc [.ref (hRd 99)] (PR D K (wRd K hRd aTp (hRo 99) sRd ++ [(aTp, .inl (K 2, nTp, .inl fTp))] ++ wRo K hRo sRo))) (va_Qi (fun r (_ : Unit) => r = res) BN nOne) 0 0 nOne := by
  refine Met.ofW (cc := cX7_placeNamed) (maxL := 2) (ret := (some .int)) (by decide) rfl ?_
  intro p e s m args below meth c s₁ B hml hv
  obtain ⟨hargs, hP, hK⟩ := hv
  have hx := B.exec
  have hb := B.bytes
  have hr := B.returns
  have hts := atoms_spec (ws := wz_X7_placeNamed) B.pre
  have htl : ∀ w ∈ wsL_law, w.before args s = true := fun w h => hts w (List.mem_cons_of_mem _ h)
  have hown : s.vm.findClass RX7 = some m.cls := findClass_of_methodNamed B.named
  have hlocks := B.notSynchronized
  have hS : va_S nOne s.heap s.heap [] := va_S.rf
  have iX7 : ∀ w ∈ wsX70, w ∈ wz_X7_placeNamed := fun w h => List.mem_cons_of_mem _ (inlX7 w h)
  have iX9 : ∀ w ∈ wsX90, w ∈ wz_X7_placeNamed := fun w h => List.mem_cons_of_mem _ (inlX9 w h)
  suffices hgo : ∀ Q : State → Prop, Q = MQ below (va_Qi (fun r (_ : Unit) => r = res) BN nOne) args s 0 0 nOne → W p l e (headSpec wz_X7_placeNamed r_X7_placeNamed).room s m args below meth c s.heap [] 0 0 Q (entryFrame m args 2) from hgo _ rfl
  intro Q hQ
  have w2 : ∀ (n : Nat), ∀ (x1 : Int32), ∀ (H : Heap) (locs : List Loc) (ls : Array Slot), f_X7_placeNamed_2 F sRd nTp fTp sRo n x1 = some res → va_P D vwCl (wRd K hRd aTp (hRo 99) sRd ++ [(aTp, .inl (K 2, nTp, .inl fTp))] ++ wRo K hRo sRo) H → va_S nOne s.heap H locs → lv_has ls 2 [(0, .ref (hRd 99)), (1, .int x1)] → W p l e (headSpec wz_X7_placeNamed r_X7_placeNamed).room s m args below meth c H locs 0 0 Q (F0 m 2 ls []) := by
    intro n
    induction n with
    | zero =>
      intro x1 H locs ls hf
      exact absurd (show none = some res from hf) (fun h => nomatch h)
    | succ n ih =>
      intro x1 H locs ls hf hP hS hl
      rw [f_X7_placeNamed_2] at hf
      refine lv_iload_n hx hb dX7_placeNamed_2 rfl (lv_at hl 1 rfl) ?_
      refine lv_aload_n hx hb dX7_placeNamed_3 rfl (lv_at hl 0 rfl) ?_
      refine va_get (D := D) (ci := 6) (v := .ref (hRo 99)) (C := RX7) (T := TX7) (N := 11) hx hb hts iX7 hown hK hP 0 rfl rfl 4 (by decide) (htl _ (mB3 _ (List.mem_of_getElem? (i := 18) rfl))) (fun _ h9 => h9) rfl dX7_placeNamed_4 ?_
      refine va_get (D := D) (ci := 8) (v := .int (sRo.1 5)) (C := RX9) (T := TX9) (N := 19) hx hb hts iX9 hown hK hP 4 rfl rfl 5 (by decide) (htl _ (mB9 _ (List.mem_of_getElem? (i := 20) rfl))) (fun _ h9 => h9) rfl dX7_placeNamed_7 ?_
      refine lv_icmp_ge (tgt := 29) hx hb dX7_placeNamed_10 (by decide) (fun c1 => ?_) (fun c1 => ?_)
      · have hf := it_t hf c1
        refine lv_iconst (v := (-1 : Int32)) hx hb dX7_placeNamed_29 (by decide) ?_
        have e9 := Option.some.inj hf
        rw [hQ]
        exact W.iret (v := (-1 : Int32)) hx hb hr (fun t ht hW => ⟨⟨(-1 : Int32), (), rfl, e9, trivial⟩, hS.F ht⟩) hS.2.2 dX7_placeNamed_30
      · have hf := it_f hf c1
        refine lv_aload_n hx hb dX7_placeNamed_13 rfl (lv_at hl 0 rfl) ?_
        refine lv_iload_n hx hb dX7_placeNamed_14 rfl (lv_at hl 1 rfl) ?_
        obtain ⟨o2, go2, hf⟩ := bd_s hf
        refine ro_Vi (As := [.int x1]) (rest := []) ⟨hx, hb, hml, hown, hts⟩ (c_X7_isSameName l D K F hRd (hRo 99) aTp nTp sRd fTp x1 o2 go2) (cwV 1 hts (gcV_X7_isSameName (mB14 _ (List.mem_of_getElem? (i := 2) rfl))) rfl rfl rfl hdV_X7_isSameName ⟨Nat.le_of_ble_eq_true rfl, Nat.le_of_ble_eq_true rfl⟩) hK hP hS (va_Psel hP [0, 1, 2, 3] rfl) (va_recv hK hP (ci := 6) (q0 := 0) rfl rfl) rfl hl.1 rfl (Nat.le_of_ble_eq_true rfl) dX7_placeNamed_15 ⟨Nat.zero_le _, Nat.zero_le _⟩ (fun H locs hP hS => ?_)
        refine lv_if_eq (tgt := 23) hx hb dX7_placeNamed_18 (by decide) (fun c3 => ?_) (fun c3 => ?_)
        · have hf := it_t hf c3
          obtain ⟨v4, ev4⟩ : ∃ z : Int32, z = x1 + (1 : Int32) := ⟨_, rfl⟩
          have hf := lz_s hf v4 ev4
          refine lv_iinc (v := v4) (lv' := [(1, .int v4), (0, .ref (hRd 99))]) hx hb dX7_placeNamed_23 hl (k := 1) rfl (by rw [ev4]; rfl) (by decide) rfl (fun ls hl => ?_)
          refine lv_goto (tgt := 2) hx hb dX7_placeNamed_26 (by decide) ?_
          exact ih v4 H locs ls hf hP hS (lv_sub hl [1, 0] rfl)
        · have hf := it_f hf c3
          refine lv_iload_n hx hb dX7_placeNamed_21 rfl (lv_at hl 1 rfl) ?_
          have e9 := Option.some.inj hf
          rw [hQ]
          exact W.iret (v := x1) hx hb hr (fun t ht hW => ⟨⟨x1, (), rfl, e9, trivial⟩, hS.F ht⟩) hS.2.2 dX7_placeNamed_22
  have hen : entryFrame m args 2 = entryFrame m (([.ref (hRd 99)] : List Value).toArray) 2 := by rw [hargs]
  have hl := lv_entry ([.ref (hRd 99)]) (n := 2) (Nat.le_of_ble_eq_true rfl)
  rw [hen, lg_entry_eq]
  generalize (lg_sl ([.ref (hRd 99)]) ++ List.replicate (2 - (lg_sl ([.ref (hRd 99)])).length) Slot.unset).toArray = ls at hl ⊢
  have hl : lv_has ls 2 [(0, .ref (hRd 99))] := hl
  unfold f_X7_placeNamed at hf
  obtain ⟨H, hHe⟩ : ∃ z, z = s.heap := ⟨_, rfl⟩
  obtain ⟨locs, hLe⟩ : ∃ z : List Loc, z = [] := ⟨_, rfl⟩
  rw [← hLe]
  have hS : va_S nOne s.heap H locs := by rw [hHe, hLe]; exact hS
  have hP : va_P D vwCl (wRd K hRd aTp (hRo 99) sRd ++ [(aTp, .inl (K 2, nTp, .inl fTp))] ++ wRo K hRo sRo) H := by rw [hHe]; exact hP
  have hgo : W p l e (headSpec wz_X7_placeNamed r_X7_placeNamed).room s m args below meth c H locs 0 0 Q (F0 m 0 ls []) := by
    refine lv_iconst (v := (0 : Int32)) hx hb dX7_placeNamed_0 (by decide) ?_
    refine lv_istore_n (lv' := [(1, .int (0 : Int32)), (0, .ref (hRd 99))]) hx hb dX7_placeNamed_1 rfl hl (by decide) rfl (fun ls hl => ?_)
    exact w2 F (0 : Int32) H locs ls hf hP hS (lv_sub hl [1, 0] rfl)
  rw [hHe] at hgo
  exact hgo
