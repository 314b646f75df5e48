def wz_X0_next : List Cond := .code yX0_next cX0_next 1 (some .int) :: wsL_law
abbrev r_X0_next : Room := { frames := 0, cells := 0, slots := 0, locals := 0 }
set_option maxHeartbeats 4000000 in
set_option maxRecDepth 100000 in
theorem c_X0_next (l : Launch) (D : va_G) (K : Nat → ClassId) (F : Nat) (hDw : Nat → Nat) (sz : Nat) (sDw : MS) (res : Int32 × MS) (hf : f_X0_next F sDw = some res) : Met l yX0_next wz_X0_next r_X0_next (va_Pc [.ref (hDw 99)] (PW D K (wDw K hDw sDw) sz)) (va_Qi (fun r u => r = res.1 ∧ u = res.2) (fun u t => BW D K (va_A (wDw K hDw sDw) sz) (wDw K hDw u) t) (va_A (wDw K hDw sDw) sz)) 0 0 (va_A (wDw K hDw sDw) sz) := by
  refine Met.ofW (cc := cX0_next) (maxL := 1) (ret := (some .int)) (by decide) rfl ?_
  intro p e s m args below meth c s₁ B hml hv
  obtain ⟨hargs, hsz, hP, hK, hD0⟩ := hv
  have hx := B.exec
  have hb := B.bytes
  have hr := B.returns
  have hts := atoms_spec (ws := wz_X0_next) B.pre
  have htl : ∀ w ∈ wsL_law, w.before args s = true := fun w h => hts w (List.mem_cons_of_mem _ h)
  have hown : s.vm.findClass RX0 = some m.cls := findClass_of_methodNamed B.named
  have hlocks := B.notSynchronized
  subst hsz
  have hD := hD0.self (sz := s.heap.size)
  generalize hAe : va_A (wDw K hDw sDw) s.heap.size = A at hD ⊢
  have hA : ∀ q : Nat, s.heap.size ≤ q → A q := fun q h => by rw [← hAe]; exact Or.inr h
  have hS : va_S A s.heap s.heap [] := va_S.rf
  have iX0 : ∀ w ∈ wsX00, w ∈ wz_X0_next := fun w h => List.mem_cons_of_mem _ (inlX0 w h)
  suffices hgo : ∀ Q : State → Prop, Q = MQ below (va_Qi (fun r u => r = res.1 ∧ u = res.2) (fun u t => BW D K A (wDw K hDw u) t) A) args s 0 0 A → W p l e (headSpec wz_X0_next r_X0_next).room s m args below meth c s.heap [] 0 0 Q (entryFrame m args 1) from hgo _ rfl
  intro Q hQ
  have hen : entryFrame m args 1 = entryFrame m (([.ref (hDw 99)] : List Value).toArray) 1 := by rw [hargs]
  have hl := lv_entry ([.ref (hDw 99)]) (n := 1) (Nat.le_of_ble_eq_true rfl)
  rw [hen, lg_entry_eq]
  generalize (lg_sl ([.ref (hDw 99)]) ++ List.replicate (1 - (lg_sl ([.ref (hDw 99)])).length) Slot.unset).toArray = ls at hl ⊢
  have hl : lv_has ls 1 [(0, .ref (hDw 99))] := hl
  unfold f_X0_next at hf
  obtain ⟨H, hHe⟩ : ∃ z, z = s.heap := ⟨_, rfl⟩
  obtain ⟨locs, hLe⟩ : ∃ z : List Loc, z = [] := ⟨_, rfl⟩
  rw [← hLe]
  have hS : va_S A s.heap H locs := by rw [hHe, hLe]; exact hS
  have hP : va_P D vwCl (wDw K hDw sDw) H := by rw [hHe]; exact hP
  have hgo : W p l e (headSpec wz_X0_next r_X0_next).room s m args below meth c H locs 0 0 Q (F0 m 0 ls []) := by
    refine lv_aload_n hx hb dX0_next_0 rfl (lv_at hl 0 rfl) ?_
    refine lv_bipush (v := (75 : Int32)) hx hb dX0_next_1 (by decide) ?_
    refine lv_aload_n hx hb dX0_next_3 rfl (lv_at hl 0 rfl) ?_
    refine va_get (D := D) (ci := 0) (v := .int (sDw.1 0)) (C := RX0) (T := TX0) (N := 1) hx hb hts iX0 hown hK hP 0 o_Dw rfl 0 (by decide) (htl _ (mB17 _ (List.mem_of_getElem? (i := 12) rfl))) (fun _ h9 => h9) rfl dX0_next_4 ?_
    refine lv_imul hx hb dX0_next_7 ?_
    refine lv_bipush (v := (74 : Int32)) hx hb dX0_next_8 (by decide) ?_
    refine lv_iadd hx hb dX0_next_10 ?_
    refine lv_ldc (v := (65537 : Int32)) hx hb hown (htl _ (mB17 _ (List.mem_of_getElem? (i := 13) rfl))) dX0_next_11 ?_
    refine lv_irem hx hb dX0_next_13 (by decide) ?_
    refine lv_topi (fun v1 ev1 => ?_)
    have hf := lz_s hf v1 ev1
    refine va_put (D := D) (ci := 0) (v := .int v1) (ty := .int) (C := RX0) (T := TX0) (N := 1) hx hb hts iX0 tyX0 tyX0_ok nmX0 hown hK hP hD hS 0 o_Dw rfl 0 (by decide) (htl _ (mB17 _ (List.mem_of_getElem? (i := 12) rfl))) (fun _ h9 => h9) rfl (by decide +kernel) rfl rfl (Nat.le_of_ble_eq_true rfl) dX0_next_14 (fun H locs hP hD hS => ?_)
    have hP := cvP si_Dw_0 hP
    have hD := cvD si_Dw_0 hD
    obtain ⟨s2, es2⟩ : ∃ z, z = sI sDw 0 v1 := ⟨_, rfl⟩
    have hP : va_P D vwCl (wDw K hDw s2) H := by rw [es2]; exact hP
    have hD : va_D A (wDw K hDw s2) := by rw [es2]; exact hD
    have hf := lz_s hf s2 es2
    refine lv_aload_n hx hb dX0_next_17 rfl (lv_at hl 0 rfl) ?_
    refine va_get (D := D) (ci := 0) (v := .int (s2.1 0)) (C := RX0) (T := TX0) (N := 1) hx hb hts iX0 hown hK hP 0 o_Dw rfl 0 (by decide) (htl _ (mB17 _ (List.mem_of_getElem? (i := 12) rfl))) (fun _ h9 => h9) rfl dX0_next_18 ?_
    have e9 := Option.some.inj hf
    rw [hQ]
    exact W.iret (v := (s2.1 0)) hx hb hr (fun t ht hW => ⟨⟨(s2.1 0), s2, rfl, ⟨pr1 e9, pr2 e9⟩, ⟨by rw [ht]; exact hP, va_K.moved hW.alike hK, hD⟩⟩, hS.F ht⟩) hS.2.2 dX0_next_21
  rw [hHe] at hgo
  exact hgo

theorem gcV_X0_next {T0 : Cond} {own : String} {i : Nat} (h : Cond.methodLink own i yX0_next ∈ wsL_law) : GoodIn (T0 :: wsL_law) (wsV own i RX0 yX0_next wz_X0_next) := gV h (mB17 _ (List.mem_of_getElem? (i := 9) rfl)) (mB17 _ (List.mem_of_getElem? (i := 10) rfl)) (mB4 _ (List.mem_of_getElem? (i := 11) rfl)) (mB17 _ (List.mem_of_getElem? (i := 11) rfl))
theorem hdV_X0_next : yX0_next.cls = RX0 ∧ yX0_next.cls ≠ "java/lang/invoke/MethodHandle" ∧ yX0_next.cls ≠ "java/lang/invoke/VarHandle" ∧ (parseMethodDescriptor yX0_next.desc).map (fun d => d.parameters.length) = some 0 := by decide +kernel
def wz_X0_priceSeen : List Cond := .code yX0_priceSeen cX0_priceSeen 5 (some .int) :: wsL_law
abbrev r_X0_priceSeen : Room := { frames := 1, cells := 0, slots := 0, locals := 20 }
set_option maxHeartbeats 4000000 in
set_option maxRecDepth 100000 in
theorem c_X0_priceSeen (l : Launch) (D : va_G) (K : Nat → ClassId) (F : Nat) (hDw : Nat → Nat) (hRo : Nat → Nat) (sz : Nat) (sDw : MS) (sRo : MS) (p2 : Int32) (res : Int32 × MS) (hf : f_X0_priceSeen F sRo p2 sDw = some res) : Met l yX0_priceSeen wz_X0_priceSeen r_X0_priceSeen (va_Pc [.ref (hDw 99), .ref (hRo 99), .int p2] (PW D K (wDw K hDw sDw ++ wRo K hRo sRo) sz)) (va_Qi (fun r u => r = res.1 ∧ u = res.2) (fun u t => BW D K (va_A (wDw K hDw sDw ++ wRo K hRo sRo) sz) (wDw K hDw u ++ wRo K hRo sRo) t) (va_A (wDw K hDw sDw ++ wRo K hRo sRo) sz)) 0 0 (va_A (wDw K hDw sDw ++ wRo K hRo sRo) sz) := by
  refine Met.ofW (cc := cX0_priceSeen) (maxL := 5) (ret := (some .int)) (by decide) rfl ?_
  intro p e s m args below meth c s₁ B hml hv
  obtain ⟨hargs, hsz, hP, hK, hD0⟩ := hv
  have hx := B.exec
  have hb := B.bytes
  have hr := B.returns
  have hts := atoms_spec (ws := wz_X0_priceSeen) B.pre
  have htl : ∀ w ∈ wsL_law, w.before args s = true := fun w h => hts w (List.mem_cons_of_mem _ h)
  have hown : s.vm.findClass RX0 = some m.cls := findClass_of_methodNamed B.named
  have hlocks := B.notSynchronized
  subst hsz
  have hD := hD0.self (sz := s.heap.size)
  generalize hAe : va_A (wDw K hDw sDw ++ wRo K hRo sRo) s.heap.size = A at hD ⊢
  have hA : ∀ q : Nat, s.heap.size ≤ q → A q := fun q h => by rw [← hAe]; exact Or.inr h
  have hS : va_S A s.heap s.heap [] := va_S.rf
  have iX9 : ∀ w ∈ wsX90, w ∈ wz_X0_priceSeen := fun w h => List.mem_cons_of_mem _ (inlX9 w h)
  suffices hgo : ∀ Q : State → Prop, Q = MQ below (va_Qi (fun r u => r = res.1 ∧ u = res.2) (fun u t => BW D K A (wDw K hDw u ++ wRo K hRo sRo) t) A) args s 0 0 A → W p l e (headSpec wz_X0_priceSeen r_X0_priceSeen).room s m args below meth c s.heap [] 0 0 Q (entryFrame m args 5) from hgo _ rfl
  intro Q hQ
  have w63 : ∀ (x3 : Int32), ∀ (x4 : Int32), ∀ (sDw : MS), ∀ (H : Heap) (locs : List Loc) (ls : Array Slot), f_X0_priceSeen_63 F sRo p2 x3 x4 sDw = some res → va_P D vwCl (wDw K hDw sDw ++ wRo K hRo sRo) H → va_D A (wDw K hDw sDw ++ wRo K hRo sRo) → va_S A s.heap H locs → lv_has ls 5 [(3, .int x3), (4, .int x4)] → W p l e (headSpec wz_X0_priceSeen r_X0_priceSeen).room s m args below meth c H locs 0 0 Q (F0 m 63 ls []) := by
    intro x3 x4 sDw H locs ls hf hP hD hS hl
    unfold f_X0_priceSeen_63 at hf
    refine lv_iload hx hb dX0_priceSeen_63 (lv_at hl 1 rfl) ?_
    refine lv_if_eq (tgt := 73) hx hb dX0_priceSeen_65 (by decide) (fun c15 => ?_) (fun c15 => ?_)
    · have hf := it_t hf c15
      refine lv_iload_n hx hb dX0_priceSeen_73 rfl (lv_at hl 0 rfl) ?_
      have e9 := Option.some.inj hf
      rw [hQ]
      exact W.iret (v := x3) hx hb hr (fun t ht hW => ⟨⟨x3, sDw, rfl, ⟨pr1 e9, pr2 e9⟩, ⟨by rw [ht]; exact hP, va_K.moved hW.alike hK, hD⟩⟩, hS.F ht⟩) hS.2.2 dX0_priceSeen_74
    · have hf := it_f hf c15
      refine lv_bipush (v := (-2 : Int32)) hx hb dX0_priceSeen_68 (by decide) ?_
      refine lv_goto (tgt := 74) hx hb dX0_priceSeen_70 (by decide) ?_
      have e9 := Option.some.inj hf
      rw [hQ]
      exact W.iret (v := (-2 : Int32)) hx hb hr (fun t ht hW => ⟨⟨(-2 : Int32), sDw, rfl, ⟨pr1 e9, pr2 e9⟩, ⟨by rw [ht]; exact hP, va_K.moved hW.alike hK, hD⟩⟩, hS.F ht⟩) hS.2.2 dX0_priceSeen_74
  have w35 : ∀ (x3 : Int32), ∀ (y0 : Int32), ∀ (sDw : MS), ∀ (H : Heap) (locs : List Loc) (ls : Array Slot), f_X0_priceSeen_35 F sRo p2 x3 y0 sDw = some res → va_P D vwCl (wDw K hDw sDw ++ wRo K hRo sRo) H → va_D A (wDw K hDw sDw ++ wRo K hRo sRo) → va_S A s.heap H locs → lv_has ls 5 [(0, .ref (hDw 99)), (1, .ref (hRo 99)), (2, .int p2), (3, .int x3)] → W p l e (headSpec wz_X0_priceSeen r_X0_priceSeen).room s m args below meth c H locs 0 0 Q (F0 m 35 ls [.int y0]) := by
    intro x3 y0 sDw H locs ls hf hP hD hS hl
    unfold f_X0_priceSeen_35 at hf
    refine lv_istore (lv' := [(4, .int y0), (0, .ref (hDw 99)), (1, .ref (hRo 99)), (2, .int p2), (3, .int x3)]) hx hb dX0_priceSeen_35 hl (by decide) rfl (fun ls hl => ?_)
    refine lv_aload_n hx hb dX0_priceSeen_37 rfl (lv_at hl 2 rfl) ?_
    refine va_get (D := D) (ci := 8) (v := .ref (hRo 13)) (C := RX9) (T := TX9) (N := 19) hx hb hts iX9 hown hK hP (1 + 0) (rwr ln_Dw o_Ro) rfl 13 (by decide) (htl _ (mB17 _ (List.mem_of_getElem? (i := 7) rfl))) (fun _ h9 => h9) rfl dX0_priceSeen_38 ?_
    refine lv_iload_n hx hb dX0_priceSeen_41 rfl (lv_at hl 3 rfl) ?_
    obtain ⟨g8, hf⟩ := gd_s hf
    refine va_iald hx hb hK hP (1 + 4) 0 (f := sRo.2.2.1 13) (rwr ln_Dw a_Ro_13) rfl (vpb_in g8) dX0_priceSeen_42 ?_
    refine lv_topi (fun v9 ev9 => ?_)
    have hf := lz_s hf v9 ev9
    refine lv_if_le (tgt := 63) hx hb dX0_priceSeen_43 (by decide) (fun c10 => ?_) (fun c10 => ?_)
    · have hf := it_t hf c10
      exact w63 x3 y0 sDw H locs ls hf hP hD hS (lv_sub hl [4, 0] rfl)
    · have hf := it_f hf c10
      refine lv_aload_n hx hb dX0_priceSeen_46 rfl (lv_at hl 1 rfl) ?_
      obtain ⟨o11, go11, hf⟩ := bd_s hf
      refine rk_Vi (wn := wDw K hDw o11.2 ++ wRo K hRo sRo) [wDw K hDw sDw, wRo K hRo sRo] [wDw K hDw sDw] [wDw K hDw o11.2] [wDw K hDw o11.2, wRo K hRo sRo] (As := []) (rest := []) ⟨hx, hb, hml, hown, hts⟩ (c_X0_next l D K F hDw H.size sDw o11 go11) (cwV 0 hts (gcV_X0_next (mB17 _ (List.mem_of_getElem? (i := 8) rfl))) rfl rfl rfl hdV_X0_next ⟨Nat.le_of_ble_eq_true rfl, Nat.le_of_ble_eq_true rfl⟩) hK hP hD hS hA [0] (fl2 _ _) rfl (by decide) (fl1 _) (fl1 _) rfl rfl (fl2 _ _) (va_recv hK hP (ci := 0) (q0 := 0) rfl (rwl o_Dw)) rfl hl.1 rfl (Nat.le_of_ble_eq_true rfl) dX0_priceSeen_47 ⟨Nat.zero_le _, Nat.zero_le _⟩ (fun H locs hP hD hS => ?_)
      have hP : va_P D vwCl (wDw K hDw o11.2 ++ wRo K hRo sRo) H := hP
      have hD : va_D A (wDw K hDw o11.2 ++ wRo K hRo sRo) := hD
      refine lv_iconst (v := (2 : Int32)) hx hb dX0_priceSeen_50 (by decide) ?_
      refine lv_irem hx hb dX0_priceSeen_51 (by decide) ?_
      refine lv_iconst (v := (1 : Int32)) hx hb dX0_priceSeen_52 (by decide) ?_
      refine lv_icmp_ne (tgt := 63) hx hb dX0_priceSeen_53 (by decide) (fun c12 => ?_) (fun c12 => ?_)
      · have hf := it_f hf c12
        exact w63 x3 y0 o11.2 H locs ls hf hP hD hS (lv_sub hl [4, 0] rfl)
      · have hf := it_t hf c12
        refine lv_aload_n hx hb dX0_priceSeen_56 rfl (lv_at hl 2 rfl) ?_
        refine va_get (D := D) (ci := 8) (v := .ref (hRo 13)) (C := RX9) (T := TX9) (N := 19) hx hb hts iX9 hown hK hP (1 + 0) (rwr ln_Dw o_Ro) rfl 13 (by decide) (htl _ (mB17 _ (List.mem_of_getElem? (i := 7) rfl))) (fun _ h9 => h9) rfl dX0_priceSeen_57 ?_
        refine lv_iload_n hx hb dX0_priceSeen_60 rfl (lv_at hl 3 rfl) ?_
        obtain ⟨g13, hf⟩ := gd_s hf
        refine va_iald hx hb hK hP (1 + 4) 0 (f := sRo.2.2.1 13) (rwr ln_Dw a_Ro_13) rfl (vpb_in g13) dX0_priceSeen_61 ?_
        refine lv_topi (fun v14 ev14 => ?_)
        have hf := lz_s hf v14 ev14
        refine lv_istore_n (lv' := [(3, .int v14), (4, .int y0), (0, .ref (hDw 99)), (1, .ref (hRo 99)), (2, .int p2)]) hx hb dX0_priceSeen_62 rfl hl (by decide) rfl (fun ls hl => ?_)
        exact w63 v14 y0 o11.2 H locs ls hf hP hD hS (lv_sub hl [0, 1] rfl)
  have hen : entryFrame m args 5 = entryFrame m (([.ref (hDw 99), .ref (hRo 99), .int p2] : List Value).toArray) 5 := by rw [hargs]
  have hl := lv_entry ([.ref (hDw 99), .ref (hRo 99), .int p2]) (n := 5) (Nat.le_of_ble_eq_true rfl)
  rw [hen, lg_entry_eq]
  generalize (lg_sl ([.ref (hDw 99), .ref (hRo 99), .int p2]) ++ List.replicate (5 - (lg_sl ([.ref (hDw 99), .ref (hRo 99), .int p2])).length) Slot.unset).toArray = ls at hl ⊢
  have hl : lv_has ls 5 [(0, .ref (hDw 99)), (1, .ref (hRo 99)), (2, .int p2)] := hl
  unfold f_X0_priceSeen at hf
  obtain ⟨H, hHe⟩ : ∃ z, z = s.heap := ⟨_, rfl⟩
  obtain ⟨locs, hLe⟩ : ∃ z : List Loc, z = [] := ⟨_, rfl⟩
  rw [← hLe]
  have hS : va_S A s.heap H locs := by rw [hHe, hLe]; exact hS
  have hP : va_P D vwCl (wDw K hDw sDw ++ wRo K hRo sRo) H := by rw [hHe]; exact hP
  have hgo : W p l e (headSpec wz_X0_priceSeen r_X0_priceSeen).room s m args below meth c H locs 0 0 Q (F0 m 0 ls []) := by
    refine lv_aload_n hx hb dX0_priceSeen_0 rfl (lv_at hl 1 rfl) ?_
    refine va_get (D := D) (ci := 8) (v := .ref (hRo 12)) (C := RX9) (T := TX9) (N := 19) hx hb hts iX9 hown hK hP (1 + 0) (rwr ln_Dw o_Ro) rfl 12 (by decide) (htl _ (mB17 _ (List.mem_of_getElem? (i := 5) rfl))) (fun _ h9 => h9) rfl dX0_priceSeen_1 ?_
    refine lv_iload_n hx hb dX0_priceSeen_4 rfl (lv_at hl 2 rfl) ?_
    obtain ⟨g1, hf⟩ := gd_s hf
    refine va_iald hx hb hK hP (1 + 3) 0 (f := sRo.2.2.1 12) (rwr ln_Dw a_Ro_12) rfl (vpb_in g1) dX0_priceSeen_5 ?_
    refine lv_topi (fun v2 ev2 => ?_)
    have hf := lz_s hf v2 ev2
    refine lv_istore_n (lv' := [(3, .int v2), (0, .ref (hDw 99)), (1, .ref (hRo 99)), (2, .int p2)]) hx hb dX0_priceSeen_6 rfl hl (by decide) rfl (fun ls hl => ?_)
    refine lv_iload_n hx hb dX0_priceSeen_7 rfl (lv_at hl 0 rfl) ?_
    refine lv_if_ne (tgt := 14) hx hb dX0_priceSeen_8 (by decide) (fun c3 => ?_) (fun c3 => ?_)
    · have hf := it_f hf c3
      refine lv_aload_n hx hb dX0_priceSeen_14 rfl (lv_at hl 1 rfl) ?_
      obtain ⟨o4, go4, hf⟩ := bd_s hf
      refine rk_Vi (wn := wDw K hDw o4.2 ++ wRo K hRo sRo) [wDw K hDw sDw, wRo K hRo sRo] [wDw K hDw sDw] [wDw K hDw o4.2] [wDw K hDw o4.2, wRo K hRo sRo] (As := []) (rest := []) ⟨hx, hb, hml, hown, hts⟩ (c_X0_next l D K F hDw H.size sDw o4 go4) (cwV 0 hts (gcV_X0_next (mB17 _ (List.mem_of_getElem? (i := 8) rfl))) rfl rfl rfl hdV_X0_next ⟨Nat.le_of_ble_eq_true rfl, Nat.le_of_ble_eq_true rfl⟩) hK hP hD hS hA [0] (fl2 _ _) rfl (by decide) (fl1 _) (fl1 _) rfl rfl (fl2 _ _) (va_recv hK hP (ci := 0) (q0 := 0) rfl (rwl o_Dw)) rfl hl.1 rfl (Nat.le_of_ble_eq_true rfl) dX0_priceSeen_15 ⟨Nat.zero_le _, Nat.zero_le _⟩ (fun H locs hP hD hS => ?_)
      have hP : va_P D vwCl (wDw K hDw o4.2 ++ wRo K hRo sRo) H := hP
      have hD : va_D A (wDw K hDw o4.2 ++ wRo K hRo sRo) := hD
      refine lv_bipush (v := (10 : Int32)) hx hb dX0_priceSeen_18 (by decide) ?_
      refine lv_irem hx hb dX0_priceSeen_20 (by decide) ?_
      refine lv_aload_n hx hb dX0_priceSeen_21 rfl (lv_at hl 2 rfl) ?_
      refine va_get (D := D) (ci := 8) (v := .ref (hRo 14)) (C := RX9) (T := TX9) (N := 19) hx hb hts iX9 hown hK hP (1 + 0) (rwr ln_Dw o_Ro) rfl 14 (by decide) (htl _ (mB17 _ (List.mem_of_getElem? (i := 6) rfl))) (fun _ h9 => h9) rfl dX0_priceSeen_22 ?_
      refine lv_iload_n hx hb dX0_priceSeen_25 rfl (lv_at hl 3 rfl) ?_
      obtain ⟨g5, hf⟩ := gd_s hf
      refine va_iald hx hb hK hP (1 + 5) 0 (f := sRo.2.2.1 14) (rwr ln_Dw a_Ro_14) rfl (vpb_in g5) dX0_priceSeen_26 ?_
      refine lv_topi (fun v6 ev6 => ?_)
      have hf := lz_s hf v6 ev6
      refine lv_icmp_ge (tgt := 34) hx hb dX0_priceSeen_27 (by decide) (fun c7 => ?_) (fun c7 => ?_)
      · have hf := it_t hf c7
        refine lv_iconst (v := (0 : Int32)) hx hb dX0_priceSeen_34 (by decide) ?_
        exact w35 v2 (0 : Int32) o4.2 H locs ls hf hP hD hS (lv_sub hl [1, 2, 3, 0] rfl)
      · have hf := it_f hf c7
        refine lv_iconst (v := (1 : Int32)) hx hb dX0_priceSeen_30 (by decide) ?_
        refine lv_goto (tgt := 35) hx hb dX0_priceSeen_31 (by decide) ?_
        exact w35 v2 (1 : Int32) o4.2 H locs ls hf hP hD hS (lv_sub hl [1, 2, 3, 0] rfl)
    · have hf := it_t hf c3
      refine lv_bipush (v := (-2 : Int32)) hx hb dX0_priceSeen_11 (by decide) ?_
      have e9 := Option.some.inj hf
      rw [hQ]
      exact W.iret (v := (-2 : Int32)) hx hb hr (fun t ht hW => ⟨⟨(-2 : Int32), sDw, rfl, ⟨pr1 e9, pr2 e9⟩, ⟨by rw [ht]; exact hP, va_K.moved hW.alike hK, hD⟩⟩, hS.F ht⟩) hS.2.2 dX0_priceSeen_13
  rw [hHe] at hgo
  exact hgo

def wz_X2_commonDivisor : List Cond := .code yX2_commonDivisor cX2_commonDivisor 11 (some .long) :: wsL_law
abbrev r_X2_commonDivisor : Room := { frames := 0, cells := 0, slots := 0, locals := 0 }
set_option maxHeartbeats 4000000 in
set_option maxRecDepth 100000 in
theorem c_X2_commonDivisor (l : Launch) (D : va_G) (K : Nat → ClassId) (F : Nat) (p0 : Int64) (p2 : Int64) (res : Int64) (hf : f_X2_commonDivisor F p0 p2 = some res) : Met l yX2_commonDivisor wz_X2_commonDivisor r_X2_commonDivisor (va_Pc [.long p0, .long p2] (PR D K (([] : va_W)))) (va_Ql (fun r (_ : Unit) => r = res) BN nOne) 0 0 nOne := by
  refine Met.ofW (cc := cX2_commonDivisor) (maxL := 11) (ret := (some .long)) (by decide) rfl ?_
  intro p e s m args below meth c s₁ B hml hv
  obtain ⟨hargs, hP, hK⟩ := hv
  have hx := B.exec
  have hb := B.bytes
  have hr := B.returns
  have hts := atoms_spec (ws := wz_X2_commonDivisor) B.pre
  have htl : ∀ w ∈ wsL_law, w.before args s = true := fun w h => hts w (List.mem_cons_of_mem _ h)
  have hown : s.vm.findClass RX2 = some m.cls := findClass_of_methodNamed B.named
  have hlocks := B.notSynchronized
  have hS : va_S nOne s.heap s.heap [] := va_S.rf
  suffices hgo : ∀ Q : State → Prop, Q = MQ below (va_Ql (fun r (_ : Unit) => r = res) BN nOne) args s 0 0 nOne → W p l e (headSpec wz_X2_commonDivisor r_X2_commonDivisor).room s m args below meth c s.heap [] 0 0 Q (entryFrame m args 11) from hgo _ rfl
  intro Q hQ
  have w9 : ∀ (n : Nat), ∀ (x4 : Int64), ∀ (x6 : Int64), ∀ (x8 : Int32), ∀ (H : Heap) (locs : List Loc) (ls : Array Slot), f_X2_commonDivisor_9 F p0 p2 n x4 x6 x8 = some res → va_P D vwCl (([] : va_W)) H → va_S nOne s.heap H locs → lv_has ls 11 [(4, .long x4), (6, .long x6), (8, .int x8)] → W p l e (headSpec wz_X2_commonDivisor r_X2_commonDivisor).room s m args below meth c H locs 0 0 Q (F0 m 9 ls []) := by
    intro n
    induction n with
    | zero =>
      intro x4 x6 x8 H locs ls hf
      exact absurd (show none = some res from hf) (fun h => nomatch h)
    | succ n ih =>
      intro x4 x6 x8 H locs ls hf hP hS hl
      rw [f_X2_commonDivisor_9] at hf
      refine lv_iload hx hb dX2_commonDivisor_9 (lv_at hl 2 rfl) ?_
      refine lv_sipush (v := (200 : Int32)) hx hb dX2_commonDivisor_11 (by decide) ?_
      refine lv_icmp_ge (tgt := 45) hx hb dX2_commonDivisor_14 (by decide) (fun c1 => ?_) (fun c1 => ?_)
      · have hf := it_t hf c1
        refine lv_lload hx hb dX2_commonDivisor_45 (lv_at hl 0 rfl) ?_
        have e9 := Option.some.inj hf
        rw [hQ]
        exact W.lret (v := x4) hx hb hr (fun t ht hW => ⟨⟨x4, (), rfl, e9, trivial⟩, hS.F ht⟩) hS.2.2 dX2_commonDivisor_47
      · have hf := it_f hf c1
        refine lv_lload hx hb dX2_commonDivisor_17 (lv_at hl 1 rfl) ?_
        refine lv_lconst (v := (0 : Int64)) hx hb dX2_commonDivisor_19 (by decide) ?_
        refine W.lcmp hx hb dX2_commonDivisor_20 ?_
        refine lv_if_eq (tgt := 45) hx hb dX2_commonDivisor_21 (by decide) (fun c2 => ?_) (fun c2 => ?_)
        · have hf := it_t hf c2
          refine lv_lload hx hb dX2_commonDivisor_45 (lv_at hl 0 rfl) ?_
          have e9 := Option.some.inj hf
          rw [hQ]
          exact W.lret (v := x4) hx hb hr (fun t ht hW => ⟨⟨x4, (), rfl, e9, trivial⟩, hS.F ht⟩) hS.2.2 dX2_commonDivisor_47
        · have hf := it_f hf c2
          refine lv_lload hx hb dX2_commonDivisor_24 (lv_at hl 0 rfl) ?_
          refine lv_lload hx hb dX2_commonDivisor_26 (lv_at hl 1 rfl) ?_
          obtain ⟨g3, hf⟩ := gd_s hf
          refine lv_lrem hx hb dX2_commonDivisor_28 (nzl_s g3) ?_
          refine lv_lstore (lv' := [(9, .long (x4 - x4 / x6 * x6)), (4, .long x4), (6, .long x6), (8, .int x8)]) hx hb dX2_commonDivisor_29 hl (by decide) rfl (fun ls hl => ?_)
          refine lv_lload hx hb dX2_commonDivisor_31 (lv_at hl 2 rfl) ?_
          refine lv_lstore (lv' := [(4, .long x6), (9, .long (x4 - x4 / x6 * x6)), (6, .long x6), (8, .int x8)]) hx hb dX2_commonDivisor_33 hl (by decide) rfl (fun ls hl => ?_)
          refine lv_lload hx hb dX2_commonDivisor_35 (lv_at hl 1 rfl) ?_
          refine lv_lstore (lv' := [(6, .long (x4 - x4 / x6 * x6)), (4, .long x6), (9, .long (x4 - x4 / x6 * x6)), (8, .int x8)]) hx hb dX2_commonDivisor_37 hl (by decide) rfl (fun ls hl => ?_)
          obtain ⟨v4, ev4⟩ : ∃ z : Int32, z = x8 + (1 : Int32) := ⟨_, rfl⟩
          have hf := lz_s hf v4 ev4
          refine lv_iinc (v := v4) (lv' := [(8, .int v4), (6, .long (x4 - x4 / x6 * x6)), (4, .long x6), (9, .long (x4 - x4 / x6 * x6))]) hx hb dX2_commonDivisor_39 hl (k := 3) rfl (by rw [ev4]; rfl) (by decide) rfl (fun ls hl => ?_)
          refine lv_goto (tgt := 9) hx hb dX2_commonDivisor_42 (by decide) ?_
          exact ih x6 (x4 - x4 / x6 * x6) v4 H locs ls hf hP hS (lv_sub hl [2, 1, 0] rfl)
  have hen : entryFrame m args 11 = entryFrame m (([.long p0, .long p2] : List Value).toArray) 11 := by rw [hargs]
  have hl := lv_entry ([.long p0, .long p2]) (n := 11) (Nat.le_of_ble_eq_true rfl)
  rw [hen, lg_entry_eq]
  generalize (lg_sl ([.long p0, .long p2]) ++ List.replicate (11 - (lg_sl ([.long p0, .long p2])).length) Slot.unset).toArray = ls at hl ⊢
  have hl : lv_has ls 11 [(0, .long p0), (2, .long p2)] := hl
  unfold f_X2_commonDivisor at hf
  obtain ⟨H, hHe⟩ : ∃ z, z = s.heap := ⟨_, rfl⟩
  obtain ⟨locs, hLe⟩ : ∃ z : List Loc, z = [] := ⟨_, rfl⟩
  rw [← hLe]
  have hS : va_S nOne s.heap H locs := by rw [hHe, hLe]; exact hS
  have hP : va_P D vwCl (([] : va_W)) H := by rw [hHe]; exact hP
  have hgo : W p l e (headSpec wz_X2_commonDivisor r_X2_commonDivisor).room s m args below meth c H locs 0 0 Q (F0 m 0 ls []) := by
    refine lv_lload_n hx hb dX2_commonDivisor_0 rfl (lv_at hl 0 rfl) ?_
    refine lv_lstore (lv' := [(4, .long p0), (0, .long p0), (2, .long p2)]) hx hb dX2_commonDivisor_1 hl (by decide) rfl (fun ls hl => ?_)
    refine lv_lload_n hx hb dX2_commonDivisor_3 rfl (lv_at hl 2 rfl) ?_
    refine lv_lstore (lv' := [(6, .long p2), (4, .long p0), (0, .long p0), (2, .long p2)]) hx hb dX2_commonDivisor_4 hl (by decide) rfl (fun ls hl => ?_)
    refine lv_iconst (v := (0 : Int32)) hx hb dX2_commonDivisor_6 (by decide) ?_
    refine lv_istore (lv' := [(8, .int (0 : Int32)), (6, .long p2), (4, .long p0), (0, .long p0), (2, .long p2)]) hx hb dX2_commonDivisor_7 hl (by decide) rfl (fun ls hl => ?_)
    exact w9 F p0 p2 (0 : Int32) H locs ls hf hP hS (lv_sub hl [2, 1, 0] rfl)
  rw [hHe] at hgo
  exact hgo

theorem gcS_X2_commonDivisor {T0 : Cond} {own : String} {i : Nat} (h : Cond.methodLink own i yX2_commonDivisor ∈ wsL_law) : GoodIn (T0 :: wsL_law) (va_wsS own i yX2_commonDivisor wz_X2_commonDivisor) := gS h (mB44 _ (List.mem_of_getElem? (i := 3) rfl)) (mB2 _ (List.mem_of_getElem? (i := 22) rfl)) (mB44 _ (List.mem_of_getElem? (i := 4) rfl))
theorem hdS_X2_commonDivisor : yX2_commonDivisor.cls ≠ "java/lang/invoke/MethodHandle" ∧ yX2_commonDivisor.cls ≠ "java/lang/invoke/VarHandle" ∧ (parseMethodDescriptor yX2_commonDivisor.desc).map (fun d => d.parameters.length) = some 2 := by decide +kernel
def wz_X2_become : List Cond := .code yX2_become cX2_become 7 none :: wsL_law
abbrev r_X2_become : Room := { frames := 1, cells := 0, slots := 0, locals := 30 }
set_option maxHeartbeats 4000000 in
set_option maxRecDepth 100000 in
theorem c_X2_become (l : Launch) (D : va_G) (K : Nat → ClassId) (F : Nat) (hFr : Nat → Nat) (sz : Nat) (sFr : MS) (p1 : Int64) (p3 : Int64) (res : MS) (hf : f_X2_become F p1 p3 sFr = some res) : Met l yX2_become wz_X2_become r_X2_become (va_Pc [.ref (hFr 99), .long p1, .long p3] (PW D K (wFr K hFr sFr) sz)) (va_Qv (fun u => u = res) (fun u t => BW D K (va_A (wFr K hFr sFr) sz) (wFr K hFr u) t) (va_A (wFr K hFr sFr) sz)) 0 0 (va_A (wFr K hFr sFr) sz) := by
  refine Met.ofW (cc := cX2_become) (maxL := 7) (ret := none) (by decide) rfl ?_
  intro p e s m args below meth c s₁ B hml hv
  obtain ⟨hargs, hsz, hP, hK, hD0⟩ := hv
  have hx := B.exec
  have hb := B.bytes
  have hr := B.returns
  have hts := atoms_spec (ws := wz_X2_become) B.pre
  have htl : ∀ w ∈ wsL_law, w.before args s = true := fun w h => hts w (List.mem_cons_of_mem _ h)
  have hown : s.vm.findClass RX2 = some m.cls := findClass_of_methodNamed B.named
  have hlocks := B.notSynchronized
  subst hsz
  have hD := hD0.self (sz := s.heap.size)
  generalize hAe : va_A (wFr K hFr sFr) s.heap.size = A at hD ⊢
  have hA : ∀ q : Nat, s.heap.size ≤ q → A q := fun q h => by rw [← hAe]; exact Or.inr h
  have hS : va_S A s.heap s.heap [] := va_S.rf
  have iX2 : ∀ w ∈ wsX20, w ∈ wz_X2_become := fun w h => List.mem_cons_of_mem _ (inlX2 w h)
  suffices hgo : ∀ Q : State → Prop, Q = MQ below (va_Qv (fun u => u = res) (fun u t => BW D K A (wFr K hFr u) t) A) args s 0 0 A → W p l e (headSpec wz_X2_become r_X2_become).room s m args below meth c s.heap [] 0 0 Q (entryFrame m args 7) from hgo _ rfl
  intro Q hQ
  have w17 : ∀ (x5 : Int64), ∀ (sFr : MS), ∀ (H : Heap) (locs : List Loc) (ls : Array Slot), f_X2_become_17 F p1 p3 x5 sFr = some res → va_P D vwCl (wFr K hFr sFr) H → va_D A (wFr K hFr sFr) → va_S A s.heap H locs → lv_has ls 7 [(0, .ref (hFr 99)), (1, .long p1), (3, .long p3), (5, .long x5)] → W p l e (headSpec wz_X2_become r_X2_become).room s m args below meth c H locs 0 0 Q (F0 m 17 ls []) := by
    intro x5 sFr H locs ls hf hP hD hS hl
    unfold f_X2_become_17 at hf
    refine lv_aload_n hx hb dX2_become_17 rfl (lv_at hl 0 rfl) ?_
    refine lv_lload_n hx hb dX2_become_18 rfl (lv_at hl 1 rfl) ?_
    refine lv_lload hx hb dX2_become_19 (lv_at hl 3 rfl) ?_
    obtain ⟨g3, hf⟩ := gd_s hf
    refine lv_ldiv hx hb dX2_become_21 (nzl_s g3) ?_
    refine va_put (D := D) (ci := 2) (v := .long (p1 / x5)) (ty := .long) (C := RX2) (T := TX2) (N := 2) hx hb hts iX2 tyX2 tyX2_ok nmX2 hown hK hP hD hS 0 o_Fr rfl 0 (by decide) (htl _ (mB44 _ (List.mem_of_getElem? (i := 1) rfl))) (fun _ h9 => h9) rfl (by decide +kernel) rfl rfl (Nat.le_of_ble_eq_true rfl) dX2_become_22 (fun H locs hP hD hS => ?_)
    have hP := cvP si_Fr_0 hP
    have hD := cvD si_Fr_0 hD
    obtain ⟨s4, es4⟩ : ∃ z, z = sL sFr 0 (p1 / x5) := ⟨_, rfl⟩
    have hP : va_P D vwCl (wFr K hFr s4) H := by rw [es4]; exact hP
    have hD : va_D A (wFr K hFr s4) := by rw [es4]; exact hD
    have hf := lz_s hf s4 es4
    refine lv_aload_n hx hb dX2_become_25 rfl (lv_at hl 0 rfl) ?_
    refine lv_lload_n hx hb dX2_become_26 rfl (lv_at hl 2 rfl) ?_
    refine lv_lload hx hb dX2_become_27 (lv_at hl 3 rfl) ?_
    obtain ⟨g5, hf⟩ := gd_s hf
    refine lv_ldiv hx hb dX2_become_29 (nzl_s g5) ?_
    refine va_put (D := D) (ci := 2) (v := .long (p3 / x5)) (ty := .long) (C := RX2) (T := TX2) (N := 2) hx hb hts iX2 tyX2 tyX2_ok nmX2 hown hK hP hD hS 0 o_Fr rfl 1 (by decide) (htl _ (mB5 _ (List.mem_of_getElem? (i := 19) rfl))) (fun _ h9 => h9) rfl (by decide +kernel) rfl rfl (Nat.le_of_ble_eq_true rfl) dX2_become_30 (fun H locs hP hD hS => ?_)
    have hP := cvP si_Fr_1 hP
    have hD := cvD si_Fr_1 hD
    obtain ⟨s6, es6⟩ : ∃ z, z = sL s4 1 (p3 / x5) := ⟨_, rfl⟩
    have hP : va_P D vwCl (wFr K hFr s6) H := by rw [es6]; exact hP
    have hD : va_D A (wFr K hFr s6) := by rw [es6]; exact hD
    have hf := lz_s hf s6 es6
    have e9 := Option.some.inj hf
    rw [hQ]
    exact W.vret hx hb hr (fun t ht hW => ⟨⟨s6, rfl, e9, ⟨by rw [ht]; exact hP, va_K.moved hW.alike hK, hD⟩⟩, hS.F ht⟩) hS.2.2 dX2_become_33
  have hen : entryFrame m args 7 = entryFrame m (([.ref (hFr 99), .long p1, .long p3] : List Value).toArray) 7 := by rw [hargs]
  have hl := lv_entry ([.ref (hFr 99), .long p1, .long p3]) (n := 7) (Nat.le_of_ble_eq_true rfl)
  rw [hen, lg_entry_eq]
  generalize (lg_sl ([.ref (hFr 99), .long p1, .long p3]) ++ List.replicate (7 - (lg_sl ([.ref (hFr 99), .long p1, .long p3])).length) Slot.unset).toArray = ls at hl ⊢
  have hl : lv_has ls 7 [(0, .ref (hFr 99)), (1, .long p1), (3, .long p3)] := hl
  unfold f_X2_become at hf
  obtain ⟨H, hHe⟩ : ∃ z, z = s.heap := ⟨_, rfl⟩
  obtain ⟨locs, hLe⟩ : ∃ z : List Loc, z = [] := ⟨_, rfl⟩
  rw [← hLe]
  have hS : va_S A s.heap H locs := by rw [hHe, hLe]; exact hS
  have hP : va_P D vwCl (wFr K hFr sFr) H := by rw [hHe]; exact hP
  have hgo : W p l e (headSpec wz_X2_become r_X2_become).room s m args below meth c H locs 0 0 Q (F0 m 0 ls []) := by
    refine lv_lload_n hx hb dX2_become_0 rfl (lv_at hl 1 rfl) ?_
    refine lv_lload_n hx hb dX2_become_1 rfl (lv_at hl 2 rfl) ?_
    obtain ⟨o1, go1, hf⟩ := bd_s hf
    refine ro_Sl (As := [.long p1, .long p3]) (rest := []) ⟨hx, hb, hml, hown, hts⟩ (c_X2_commonDivisor l D K F p1 p3 o1 go1) (va_cwS 2 hts (gcS_X2_commonDivisor (mB44 _ (List.mem_of_getElem? (i := 2) rfl))) rfl rfl rfl hdS_X2_commonDivisor ⟨Nat.le_of_ble_eq_true rfl, Nat.le_of_ble_eq_true rfl⟩) hK hP hS va_Pnil rfl hl.1 rfl (Nat.le_of_ble_eq_true rfl) dX2_become_2 ⟨Nat.zero_le _, Nat.zero_le _⟩ (fun H locs hP hS => ?_)
    refine lv_lstore (lv' := [(5, .long o1), (0, .ref (hFr 99)), (1, .long p1), (3, .long p3)]) hx hb dX2_become_5 hl (by decide) rfl (fun ls hl => ?_)
    refine lv_lload hx hb dX2_become_7 (lv_at hl 0 rfl) ?_
    refine lv_lconst (v := (0 : Int64)) hx hb dX2_become_9 (by decide) ?_
    refine W.lcmp hx hb dX2_become_10 ?_
    refine lv_if_ne (tgt := 17) hx hb dX2_become_11 (by decide) (fun c2 => ?_) (fun c2 => ?_)
    · have hf := it_f hf c2
      exact w17 o1 sFr H locs ls hf hP hD hS (lv_sub hl [1, 2, 3, 0] rfl)
    · have hf := it_t hf c2
      refine lv_lconst (v := (1 : Int64)) hx hb dX2_become_14 (by decide) ?_
      refine lv_lstore (lv' := [(5, .long (1 : Int64)), (0, .ref (hFr 99)), (1, .long p1), (3, .long p3)]) hx hb dX2_become_15 hl (by decide) rfl (fun ls hl => ?_)
      exact w17 (1 : Int64) sFr H locs ls hf hP hD hS (lv_sub hl [1, 2, 3, 0] rfl)
  rw [hHe] at hgo
  exact hgo

theorem gcV_X2_become {T0 : Cond} {own : String} {i : Nat} (h : Cond.methodLink own i yX2_become ∈ wsL_law) : GoodIn (T0 :: wsL_law) (wsV own i RX2 yX2_become wz_X2_become) := gV h (mB43 _ (List.mem_of_getElem? (i := 22) rfl)) (mB43 _ (List.mem_of_getElem? (i := 23) rfl)) (mB2 _ (List.mem_of_getElem? (i := 22) rfl)) (mB44 _ (List.mem_of_getElem? (i := 0) rfl))
theorem hdV_X2_become : yX2_become.cls = RX2 ∧ yX2_become.cls ≠ "java/lang/invoke/MethodHandle" ∧ yX2_become.cls ≠ "java/lang/invoke/VarHandle" ∧ (parseMethodDescriptor yX2_become.desc).map (fun d => d.parameters.length) = some 2 := by decide +kernel
def wz_X2_plus : List Cond := .code yX2_plus cX2_plus 5 none :: wsL_law
abbrev r_X2_plus : Room := { frames := 2, cells := 0, slots := 0, locals := 56 }
set_option maxHeartbeats 4000000 in
set_option maxRecDepth 100000 in
theorem c_X2_plus (l : Launch) (D : va_G) (K : Nat → ClassId) (F : Nat) (hFr : Nat → Nat) (sz : Nat) (sFr : MS) (p1 : Int64) (p3 : Int64) (res : MS) (hf : f_X2_plus F p1 p3 sFr = some res) : Met l yX2_plus wz_X2_plus r_X2_plus (va_Pc [.ref (hFr 99), .long p1, .long p3] (PW D K (wFr K hFr sFr) sz)) (va_Qv (fun u => u = res) (fun u t => BW D K (va_A (wFr K hFr sFr) sz) (wFr K hFr u) t) (va_A (wFr K hFr sFr) sz)) 0 0 (va_A (wFr K hFr sFr) sz) := by
  refine Met.ofW (cc := cX2_plus) (maxL := 5) (ret := none) (by decide) rfl ?_
  intro p e s m args below meth c s₁ B hml hv
  obtain ⟨hargs, hsz, hP, hK, hD0⟩ := hv
  have hx := B.exec
  have hb := B.bytes
  have hr := B.returns
  have hts := atoms_spec (ws := wz_X2_plus) B.pre
  have htl : ∀ w ∈ wsL_law, w.before args s = true := fun w h => hts w (List.mem_cons_of_mem _ h)
  have hown : s.vm.findClass RX2 = some m.cls := findClass_of_methodNamed B.named
  have hlocks := B.notSynchronized
  subst hsz
  have hD := hD0.self (sz := s.heap.size)
  generalize hAe : va_A (wFr K hFr sFr) s.heap.size = A at hD ⊢
  have hA : ∀ q : Nat, s.heap.size ≤ q → A q := fun q h => by rw [← hAe]; exact Or.inr h
  have hS : va_S A s.heap s.heap [] := va_S.rf
  have iX2 : ∀ w ∈ wsX20, w ∈ wz_X2_plus := fun w h => List.mem_cons_of_mem _ (inlX2 w h)
  suffices hgo : ∀ Q : State → Prop, Q = MQ below (va_Qv (fun u => u = res) (fun u t => BW D K A (wFr K hFr u) t) A) args s 0 0 A → W p l e (headSpec wz_X2_plus r_X2_plus).room s m args below meth c s.heap [] 0 0 Q (entryFrame m args 5) from hgo _ rfl
  intro Q hQ
  have hen : entryFrame m args 5 = entryFrame m (([.ref (hFr 99), .long p1, .long p3] : List Value).toArray) 5 := by rw [hargs]
  have hl := lv_entry ([.ref (hFr 99), .long p1, .long p3]) (n := 5) (Nat.le_of_ble_eq_true rfl)
  rw [hen, lg_entry_eq]
  generalize (lg_sl ([.ref (hFr 99), .long p1, .long p3]) ++ List.replicate (5 - (lg_sl ([.ref (hFr 99), .long p1, .long p3])).length) Slot.unset).toArray = ls at hl ⊢
  have hl : lv_has ls 5 [(0, .ref (hFr 99)), (1, .long p1), (3, .long p3)] := hl
  unfold f_X2_plus at hf
  obtain ⟨H, hHe⟩ : ∃ z, z = s.heap := ⟨_, rfl⟩
  obtain ⟨locs, hLe⟩ : ∃ z : List Loc, z = [] := ⟨_, rfl⟩
  rw [← hLe]
  have hS : va_S A s.heap H locs := by rw [hHe, hLe]; exact hS
  have hP : va_P D vwCl (wFr K hFr sFr) H := by rw [hHe]; exact hP
  have hgo : W p l e (headSpec wz_X2_plus r_X2_plus).room s m args below meth c H locs 0 0 Q (F0 m 0 ls []) := by
    refine lv_aload_n hx hb dX2_plus_0 rfl (lv_at hl 0 rfl) ?_
    refine lv_aload_n hx hb dX2_plus_1 rfl (lv_at hl 0 rfl) ?_
    refine va_get (D := D) (ci := 2) (v := .long (sFr.2.1 0)) (C := RX2) (T := TX2) (N := 2) hx hb hts iX2 hown hK hP 0 o_Fr rfl 0 (by decide) (htl _ (mB44 _ (List.mem_of_getElem? (i := 1) rfl))) (fun _ h9 => h9) rfl dX2_plus_2 ?_
    refine lv_lload_n hx hb dX2_plus_5 rfl (lv_at hl 2 rfl) ?_
    refine lv_lmul hx hb dX2_plus_6 ?_
    refine lv_lload_n hx hb dX2_plus_7 rfl (lv_at hl 1 rfl) ?_
    refine lv_aload_n hx hb dX2_plus_8 rfl (lv_at hl 0 rfl) ?_
    refine va_get (D := D) (ci := 2) (v := .long (sFr.2.1 1)) (C := RX2) (T := TX2) (N := 2) hx hb hts iX2 hown hK hP 0 o_Fr rfl 1 (by decide) (htl _ (mB5 _ (List.mem_of_getElem? (i := 19) rfl))) (fun _ h9 => h9) rfl dX2_plus_9 ?_
    refine lv_lmul hx hb dX2_plus_12 ?_
    refine lv_ladd hx hb dX2_plus_13 ?_
    refine lv_aload_n hx hb dX2_plus_14 rfl (lv_at hl 0 rfl) ?_
    refine va_get (D := D) (ci := 2) (v := .long (sFr.2.1 1)) (C := RX2) (T := TX2) (N := 2) hx hb hts iX2 hown hK hP 0 o_Fr rfl 1 (by decide) (htl _ (mB5 _ (List.mem_of_getElem? (i := 19) rfl))) (fun _ h9 => h9) rfl dX2_plus_15 ?_
    refine lv_lload_n hx hb dX2_plus_18 rfl (lv_at hl 2 rfl) ?_
    refine lv_lmul hx hb dX2_plus_19 ?_
    obtain ⟨o1, go1, hf⟩ := bd_s hf
    refine rs_Vv (As := [.long (((sFr.2.1 0) * p3) + (p1 * (sFr.2.1 1))), .long ((sFr.2.1 1) * p3)]) (rest := []) ⟨hx, hb, hml, hown, hts⟩ (c_X2_become l D K F hFr H.size sFr (((sFr.2.1 0) * p3) + (p1 * (sFr.2.1 1))) ((sFr.2.1 1) * p3) o1 go1) (cwV 2 hts (gcV_X2_become (mB53 _ (List.mem_of_getElem? (i := 4) rfl))) rfl rfl rfl hdV_X2_become ⟨Nat.le_of_ble_eq_true rfl, Nat.le_of_ble_eq_true rfl⟩) hK hP hD hS hA (va_recv hK hP (ci := 2) (q0 := 0) rfl o_Fr) rfl hl.1 rfl (Nat.le_of_ble_eq_true rfl) dX2_plus_20 ⟨Nat.zero_le _, Nat.zero_le _⟩ (fun H locs hP hD hS => ?_)
    have hP : va_P D vwCl (wFr K hFr o1) H := hP
    have hD : va_D A (wFr K hFr o1) := hD
    have e9 := Option.some.inj hf
    rw [hQ]
    exact W.vret hx hb hr (fun t ht hW => ⟨⟨o1, rfl, e9, ⟨by rw [ht]; exact hP, va_K.moved hW.alike hK, hD⟩⟩, hS.F ht⟩) hS.2.2 dX2_plus_23
  rw [hHe] at hgo
  exact hgo

def wz_X4_leave : List Cond := .code yX4_leave cX4_leave 6 none :: wsL_law
abbrev r_X4_leave : Room := { frames := 0, cells := 0, slots := 0, locals := 0 }
set_option maxHeartbeats 4000000 in
set_option maxRecDepth 100000 in
theorem c_X4_leave (l : Launch) (D : va_G) (K : Nat → ClassId) (F : Nat) (aq0 nq0 : Nat) (sz : Nat) (fq0 : (Nat → Int64)) (p1 : Int32) (p2 : Int32) (p3 : Int64) (res : (Nat → Int64)) (hf : f_X4_leave F nq0 p1 p2 p3 fq0 = some res) : Met l yX4_leave wz_X4_leave r_X4_leave (va_Pc [.ref aq0, .int p1, .int p2, .long p3] (PW D K (wAJ K aq0 nq0 fq0) sz)) (va_Qv (fun u => u = res) (fun u t => BW D K (va_A (wAJ K aq0 nq0 fq0) sz) (wAJ K aq0 nq0 u) t) (va_A (wAJ K aq0 nq0 fq0) sz)) 0 0 (va_A (wAJ K aq0 nq0 fq0) sz) := by
  refine Met.ofW (cc := cX4_leave) (maxL := 6) (ret := none) (by decide) rfl ?_
  intro p e s m args below meth c s₁ B hml hv
  obtain ⟨hargs, hsz, hP, hK, hD0⟩ := hv
  have hx := B.exec
  have hb := B.bytes
  have hr := B.returns
  have hts := atoms_spec (ws := wz_X4_leave) B.pre
  have htl : ∀ w ∈ wsL_law, w.before args s = true := fun w h => hts w (List.mem_cons_of_mem _ h)
  have hown : s.vm.findClass RX4 = some m.cls := findClass_of_methodNamed B.named
  have hlocks := B.notSynchronized
  subst hsz
  have hD := hD0.self (sz := s.heap.size)
  generalize hAe : va_A (wAJ K aq0 nq0 fq0) s.heap.size = A at hD ⊢
  have hA : ∀ q : Nat, s.heap.size ≤ q → A q := fun q h => by rw [← hAe]; exact Or.inr h
  have hS : va_S A s.heap s.heap [] := va_S.rf
  suffices hgo : ∀ Q : State → Prop, Q = MQ below (va_Qv (fun u => u = res) (fun u t => BW D K A (wAJ K aq0 nq0 u) t) A) args s 0 0 A → W p l e (headSpec wz_X4_leave r_X4_leave).room s m args below meth c s.heap [] 0 0 Q (entryFrame m args 6) from hgo _ rfl
  intro Q hQ
  have w27 : ∀ (k3 : Int32 → (Nat → Int64) → Option ((Nat → Int64))), (∀ (x5 : Int32), ∀ (fq0 : (Nat → Int64)), ∀ (H : Heap) (locs : List Loc) (ls : Array Slot), k3 x5 fq0 = some res → va_P D vwCl (wAJ K aq0 nq0 fq0) H → va_D A (wAJ K aq0 nq0 fq0) → va_S A s.heap H locs → lv_has ls 6 [(0, .ref aq0), (2, .int p2), (3, .long p3), (5, .int x5)] → W p l e (headSpec wz_X4_leave r_X4_leave).room s m args below meth c H locs 0 0 Q (F0 m 3 ls [])) → ∀ (x5 : Int32), ∀ (y1 : Int32), ∀ (y2 : Int64), ∀ (fq0 : (Nat → Int64)), ∀ (H : Heap) (locs : List Loc) (ls : Array Slot), f_X4_leave_27 F nq0 p1 p2 p3 k3 x5 y1 y2 fq0 = some res → va_P D vwCl (wAJ K aq0 nq0 fq0) H → va_D A (wAJ K aq0 nq0 fq0) → va_S A s.heap H locs → lv_has ls 6 [(0, .ref aq0), (2, .int p2), (3, .long p3), (5, .int x5)] → W p l e (headSpec wz_X4_leave r_X4_leave).room s m args below meth c H locs 0 0 Q (F0 m 27 ls [.long y2, .int y1, .ref aq0]) := by
    intro k3 hk3 x5 y1 y2 fq0 H locs ls hf hP hD hS hl
    unfold f_X4_leave_27 at hf
    obtain ⟨g4, hf⟩ := gd_s hf
    refine va_last hx hb hK hP hD hS 0 1 (f := fq0) o_AJ rfl (vpb_in g4) dX4_leave_27 (fun H locs hP hD hS => ?_)
    have hP := cvP s_AJ hP
    have hD := cvD s_AJ hD
    obtain ⟨g5, eg5⟩ : ∃ z, z = vp_updL fq0 y1.toNatClampNeg y2 := ⟨_, rfl⟩
    have hP : va_P D vwCl (wAJ K aq0 nq0 g5) H := by rw [eg5]; exact hP
    have hD : va_D A (wAJ K aq0 nq0 g5) := by rw [eg5]; exact hD
    have hf := lz_s hf g5 eg5
    obtain ⟨v6, ev6⟩ : ∃ z : Int32, z = x5 + (-1 : Int32) := ⟨_, rfl⟩
    have hf := lz_s hf v6 ev6
    refine lv_iinc (v := v6) (lv' := [(5, .int v6), (0, .ref aq0), (2, .int p2), (3, .long p3)]) hx hb dX4_leave_28 hl (k := 3) rfl (by rw [ev6]; rfl) (by decide) rfl (fun ls hl => ?_)
    refine lv_goto (tgt := 3) hx hb dX4_leave_31 (by decide) ?_
    exact hk3 v6 g5 H locs ls hf hP hD hS (lv_sub hl [1, 2, 3, 0] rfl)
  have w3 : ∀ (n : Nat), ∀ (x5 : Int32), ∀ (fq0 : (Nat → Int64)), ∀ (H : Heap) (locs : List Loc) (ls : Array Slot), f_X4_leave_3 F nq0 p1 p2 p3 n x5 fq0 = some res → va_P D vwCl (wAJ K aq0 nq0 fq0) H → va_D A (wAJ K aq0 nq0 fq0) → va_S A s.heap H locs → lv_has ls 6 [(0, .ref aq0), (2, .int p2), (3, .long p3), (5, .int x5)] → W p l e (headSpec wz_X4_leave r_X4_leave).room s m args below meth c H locs 0 0 Q (F0 m 3 ls []) := by
    intro n
    induction n with
    | zero =>
      intro x5 fq0 H locs ls hf
      exact absurd (show none = some res from hf) (fun h => nomatch h)
    | succ n ih =>
      intro x5 fq0 H locs ls hf hP hD hS hl
      rw [f_X4_leave_3] at hf
      refine lv_iload hx hb dX4_leave_3 (lv_at hl 3 rfl) ?_
      refine lv_if_lt (tgt := 34) hx hb dX4_leave_5 (by decide) (fun c1 => ?_) (fun c1 => ?_)
      · have hf := it_t hf c1
        have e9 := Option.some.inj hf
        rw [hQ]
        exact W.vret hx hb hr (fun t ht hW => ⟨⟨fq0, rfl, e9, ⟨by rw [ht]; exact hP, va_K.moved hW.alike hK, hD⟩⟩, hS.F ht⟩) hS.2.2 dX4_leave_34
      · have hf := it_f hf c1
        refine lv_aload_n hx hb dX4_leave_8 rfl (lv_at hl 0 rfl) ?_
        refine lv_iload hx hb dX4_leave_9 (lv_at hl 3 rfl) ?_
        refine lv_iload hx hb dX4_leave_11 (lv_at hl 3 rfl) ?_
        refine lv_iload_n hx hb dX4_leave_13 rfl (lv_at hl 1 rfl) ?_
        refine lv_icmp_lt (tgt := 26) hx hb dX4_leave_14 (by decide) (fun c2 => ?_) (fun c2 => ?_)
        · have hf := it_t hf c2
          refine lv_lload_n hx hb dX4_leave_26 rfl (lv_at hl 2 rfl) ?_
          exact w27 (f_X4_leave_3 F nq0 p1 p2 p3 n) ih x5 x5 p3 fq0 H locs ls hf hP hD hS (lv_sub hl [0, 1, 2, 3] rfl)
        · have hf := it_f hf c2
          refine lv_aload_n hx hb dX4_leave_17 rfl (lv_at hl 0 rfl) ?_
          refine lv_iload hx hb dX4_leave_18 (lv_at hl 3 rfl) ?_
          refine lv_iload_n hx hb dX4_leave_20 rfl (lv_at hl 1 rfl) ?_
          refine lv_isub hx hb dX4_leave_21 ?_
          obtain ⟨g3, hf⟩ := gd_s hf
          refine va_lald hx hb hK hP 0 1 (f := fq0) o_AJ rfl (vpb_in g3) dX4_leave_22 ?_
          refine lv_goto (tgt := 27) hx hb dX4_leave_23 (by decide) ?_
          exact w27 (f_X4_leave_3 F nq0 p1 p2 p3 n) ih x5 x5 (fq0 (x5 - p2).toNatClampNeg) fq0 H locs ls hf hP hD hS (lv_sub hl [0, 1, 2, 3] rfl)
  have hen : entryFrame m args 6 = entryFrame m (([.ref aq0, .int p1, .int p2, .long p3] : List Value).toArray) 6 := by rw [hargs]
  have hl := lv_entry ([.ref aq0, .int p1, .int p2, .long p3]) (n := 6) (Nat.le_of_ble_eq_true rfl)
  rw [hen, lg_entry_eq]
  generalize (lg_sl ([.ref aq0, .int p1, .int p2, .long p3]) ++ List.replicate (6 - (lg_sl ([.ref aq0, .int p1, .int p2, .long p3])).length) Slot.unset).toArray = ls at hl ⊢
  have hl : lv_has ls 6 [(0, .ref aq0), (1, .int p1), (2, .int p2), (3, .long p3)] := hl
  unfold f_X4_leave at hf
  obtain ⟨H, hHe⟩ : ∃ z, z = s.heap := ⟨_, rfl⟩
  obtain ⟨locs, hLe⟩ : ∃ z : List Loc, z = [] := ⟨_, rfl⟩
  rw [← hLe]
  have hS : va_S A s.heap H locs := by rw [hHe, hLe]; exact hS
  have hP : va_P D vwCl (wAJ K aq0 nq0 fq0) H := by rw [hHe]; exact hP
  have hgo : W p l e (headSpec wz_X4_leave r_X4_leave).room s m args below meth c H locs 0 0 Q (F0 m 0 ls []) := by
    refine lv_iload_n hx hb dX4_leave_0 rfl (lv_at hl 1 rfl) ?_
    refine lv_istore (lv' := [(5, .int p1), (0, .ref aq0), (1, .int p1), (2, .int p2), (3, .long p3)]) hx hb dX4_leave_1 hl (by decide) rfl (fun ls hl => ?_)
    exact w3 F p1 fq0 H locs ls hf hP hD hS (lv_sub hl [1, 3, 4, 0] rfl)
  rw [hHe] at hgo
  exact hgo

def wz_X4_choose : List Cond := .code yX4_choose cX4_choose 11 none :: wsL_law
abbrev r_X4_choose : Room := { frames := 0, cells := 0, slots := 0, locals := 0 }
set_option maxHeartbeats 4000000 in
set_option maxRecDepth 100000 in
theorem c_X4_choose (l : Launch) (D : va_G) (K : Nat → ClassId) (F : Nat) (aq0 nq0 : Nat) (aq1 nq1 : Nat) (sz : Nat) (fq0 : (Nat → Int64)) (fq1 : (Nat → Int32)) (p1 : Int32) (p2 : Int64) (p4 : Int64) (res : (Nat → Int32)) (hf : f_X4_choose F nq0 fq0 nq1 p1 p2 p4 fq1 = some res) : Met l yX4_choose wz_X4_choose r_X4_choose (va_Pc [.ref aq0, .int p1, .long p2, .long p4, .ref aq1] (PW D K (wAJ K aq0 nq0 fq0 ++ wAI K aq1 nq1 fq1) sz)) (va_Qv (fun u => u = res) (fun u t => BW D K (va_A (wAJ K aq0 nq0 fq0 ++ wAI K aq1 nq1 fq1) sz) (wAJ K aq0 nq0 fq0 ++ wAI K aq1 nq1 u) t) (va_A (wAJ K aq0 nq0 fq0 ++ wAI K aq1 nq1 fq1) sz)) 0 0 (va_A (wAJ K aq0 nq0 fq0 ++ wAI K aq1 nq1 fq1) sz) := by
  refine Met.ofW (cc := cX4_choose) (maxL := 11) (ret := none) (by decide) rfl ?_
  intro p e s m args below meth c s₁ B hml hv
  obtain ⟨hargs, hsz, hP, hK, hD0⟩ := hv
  have hx := B.exec
  have hb := B.bytes
  have hr := B.returns
  have hts := atoms_spec (ws := wz_X4_choose) B.pre
  have htl : ∀ w ∈ wsL_law, w.before args s = true := fun w h => hts w (List.mem_cons_of_mem _ h)
  have hown : s.vm.findClass RX4 = some m.cls := findClass_of_methodNamed B.named
  have hlocks := B.notSynchronized
  subst hsz
  have hD := hD0.self (sz := s.heap.size)
  generalize hAe : va_A (wAJ K aq0 nq0 fq0 ++ wAI K aq1 nq1 fq1) s.heap.size = A at hD ⊢
  have hA : ∀ q : Nat, s.heap.size ≤ q → A q := fun q h => by rw [← hAe]; exact Or.inr h
  have hS : va_S A s.heap s.heap [] := va_S.rf
  suffices hgo : ∀ Q : State → Prop, Q = MQ below (va_Qv (fun u => u = res) (fun u t => BW D K A (wAJ K aq0 nq0 fq0 ++ wAI K aq1 nq1 u) t) A) args s 0 0 A → W p l e (headSpec wz_X4_choose r_X4_choose).room s m args below meth c s.heap [] 0 0 Q (entryFrame m args 11) from hgo _ rfl
  intro Q hQ
  have w79 : ∀ (k6 : Int32 → Int32 → (Nat → Int32) → Option ((Nat → Int32))), (∀ (x7 : Int32), ∀ (x8 : Int32), ∀ (fq1 : (Nat → Int32)), ∀ (H : Heap) (locs : List Loc) (ls : Array Slot), k6 x7 x8 fq1 = some res → va_P D vwCl (wAJ K aq0 nq0 fq0 ++ wAI K aq1 nq1 fq1) H → va_D A (wAJ K aq0 nq0 fq0 ++ wAI K aq1 nq1 fq1) → va_S A s.heap H locs → lv_has ls 11 [(0, .ref aq0), (2, .long p2), (4, .long p4), (6, .ref aq1), (7, .int x7), (8, .int x8)] → W p l e (headSpec wz_X4_choose r_X4_choose).room s m args below meth c H locs 0 0 Q (F0 m 6 ls [])) → ∀ (x7 : Int32), ∀ (x8 : Int32), ∀ (fq1 : (Nat → Int32)), ∀ (H : Heap) (locs : List Loc) (ls : Array Slot), f_X4_choose_79 F nq0 fq0 nq1 p1 p2 p4 k6 x7 x8 fq1 = some res → va_P D vwCl (wAJ K aq0 nq0 fq0 ++ wAI K aq1 nq1 fq1) H → va_D A (wAJ K aq0 nq0 fq0 ++ wAI K aq1 nq1 fq1) → va_S A s.heap H locs → lv_has ls 11 [(0, .ref aq0), (2, .long p2), (4, .long p4), (6, .ref aq1), (7, .int x7), (8, .int x8)] → W p l e (headSpec wz_X4_choose r_X4_choose).room s m args below meth c H locs 0 0 Q (F0 m 79 ls []) := by
    intro k6 hk6 x7 x8 fq1 H locs ls hf hP hD hS hl
    unfold f_X4_choose_79 at hf
    obtain ⟨v11, ev11⟩ : ∃ z : Int32, z = x8 + (-1 : Int32) := ⟨_, rfl⟩
    have hf := lz_s hf v11 ev11
    refine lv_iinc (v := v11) (lv' := [(8, .int v11), (0, .ref aq0), (2, .long p2), (4, .long p4), (6, .ref aq1), (7, .int x7)]) hx hb dX4_choose_79 hl (k := 5) rfl (by rw [ev11]; rfl) (by decide) rfl (fun ls hl => ?_)
    refine lv_goto (tgt := 6) hx hb dX4_choose_82 (by decide) ?_
    exact hk6 x7 v11 fq1 H locs ls hf hP hD hS (lv_sub hl [1, 2, 3, 4, 5, 0] rfl)
  have w50 : ∀ (k6 : Int32 → Int32 → (Nat → Int32) → Option ((Nat → Int32))), (∀ (x7 : Int32), ∀ (x8 : Int32), ∀ (fq1 : (Nat → Int32)), ∀ (H : Heap) (locs : List Loc) (ls : Array Slot), k6 x7 x8 fq1 = some res → va_P D vwCl (wAJ K aq0 nq0 fq0 ++ wAI K aq1 nq1 fq1) H → va_D A (wAJ K aq0 nq0 fq0 ++ wAI K aq1 nq1 fq1) → va_S A s.heap H locs → lv_has ls 11 [(0, .ref aq0), (2, .long p2), (4, .long p4), (6, .ref aq1), (7, .int x7), (8, .int x8)] → W p l e (headSpec wz_X4_choose r_X4_choose).room s m args below meth c H locs 0 0 Q (F0 m 6 ls [])) → ∀ (x7 : Int32), ∀ (x8 : Int32), ∀ (y1 : Int32), ∀ (y2 : Int32), ∀ (fq1 : (Nat → Int32)), ∀ (H : Heap) (locs : List Loc) (ls : Array Slot), f_X4_choose_50 F nq0 fq0 nq1 p1 p2 p4 k6 x7 x8 y1 y2 fq1 = some res → va_P D vwCl (wAJ K aq0 nq0 fq0 ++ wAI K aq1 nq1 fq1) H → va_D A (wAJ K aq0 nq0 fq0 ++ wAI K aq1 nq1 fq1) → va_S A s.heap H locs → lv_has ls 11 [(0, .ref aq0), (2, .long p2), (4, .long p4), (6, .ref aq1), (7, .int x7), (8, .int x8)] → W p l e (headSpec wz_X4_choose r_X4_choose).room s m args below meth c H locs 0 0 Q (F0 m 50 ls [.int y2, .int y1, .ref aq1]) := by
    intro k6 hk6 x7 x8 y1 y2 fq1 H locs ls hf hP hD hS hl
    unfold f_X4_choose_50 at hf
    obtain ⟨g6, hf⟩ := gd_s hf
    refine va_iast hx hb hK hP hD hS (1 + 0) 0 (f := fq1) (rwr ln_AJ o_AI) rfl (vpb_in g6) dX4_choose_50 (fun H locs hP hD hS => ?_)
    have hP := cvP (str ln_AJ s_AI) hP
    have hD := cvD (str ln_AJ s_AI) hD
    obtain ⟨g7, eg7⟩ : ∃ z, z = upd fq1 y1.toNatClampNeg y2 := ⟨_, rfl⟩
    have hP : va_P D vwCl (wAJ K aq0 nq0 fq0 ++ wAI K aq1 nq1 g7) H := by rw [eg7]; exact hP
    have hD : va_D A (wAJ K aq0 nq0 fq0 ++ wAI K aq1 nq1 g7) := by rw [eg7]; exact hD
    have hf := lz_s hf g7 eg7
    refine lv_aload_n hx hb dX4_choose_51 rfl (lv_at hl 0 rfl) ?_
    refine lv_iload hx hb dX4_choose_52 (lv_at hl 5 rfl) ?_
    obtain ⟨g8, hf⟩ := gd_s hf
    refine va_lald hx hb hK hP 0 1 (f := fq0) (rwl o_AJ) rfl (vpb_in g8) dX4_choose_54 ?_
    refine lv_lload_n hx hb dX4_choose_55 rfl (lv_at hl 1 rfl) ?_
    refine lv_iload hx hb dX4_choose_56 (lv_at hl 5 rfl) ?_
    refine lv_i2l (v := x8.toInt64) hx hb dX4_choose_58 rfl ?_
    refine lv_lmul hx hb dX4_choose_59 ?_
    refine lv_ladd hx hb dX4_choose_60 ?_
    refine lv_aload_n hx hb dX4_choose_61 rfl (lv_at hl 0 rfl) ?_
    refine lv_iload hx hb dX4_choose_62 (lv_at hl 4 rfl) ?_
    obtain ⟨g9, hf⟩ := gd_s hf
    refine va_lald hx hb hK hP 0 1 (f := fq0) (rwl o_AJ) rfl (vpb_in g9) dX4_choose_64 ?_
    refine lv_lload_n hx hb dX4_choose_65 rfl (lv_at hl 1 rfl) ?_
    refine lv_iload hx hb dX4_choose_66 (lv_at hl 4 rfl) ?_
    refine lv_i2l (v := x7.toInt64) hx hb dX4_choose_68 rfl ?_
    refine lv_lmul hx hb dX4_choose_69 ?_
    refine lv_ladd hx hb dX4_choose_70 ?_
    refine W.lcmp hx hb dX4_choose_71 ?_
    refine lv_if_gt (tgt := 79) hx hb dX4_choose_72 (by decide) (fun c10 => ?_) (fun c10 => ?_)
    · have hf := it_t hf c10
      exact w79 k6 hk6 x7 x8 g7 H locs ls hf hP hD hS (lv_sub hl [0, 1, 2, 3, 4, 5] rfl)
    · have hf := it_f hf c10
      refine lv_iload hx hb dX4_choose_75 (lv_at hl 5 rfl) ?_
      refine lv_istore (lv' := [(7, .int x8), (0, .ref aq0), (2, .long p2), (4, .long p4), (6, .ref aq1), (8, .int x8)]) hx hb dX4_choose_77 hl (by decide) rfl (fun ls hl => ?_)
      exact w79 k6 hk6 x8 x8 g7 H locs ls hf hP hD hS (lv_sub hl [1, 2, 3, 4, 0, 5] rfl)
  have w6 : ∀ (n : Nat), ∀ (x7 : Int32), ∀ (x8 : Int32), ∀ (fq1 : (Nat → Int32)), ∀ (H : Heap) (locs : List Loc) (ls : Array Slot), f_X4_choose_6 F nq0 fq0 nq1 p1 p2 p4 n x7 x8 fq1 = some res → va_P D vwCl (wAJ K aq0 nq0 fq0 ++ wAI K aq1 nq1 fq1) H → va_D A (wAJ K aq0 nq0 fq0 ++ wAI K aq1 nq1 fq1) → va_S A s.heap H locs → lv_has ls 11 [(0, .ref aq0), (2, .long p2), (4, .long p4), (6, .ref aq1), (7, .int x7), (8, .int x8)] → W p l e (headSpec wz_X4_choose r_X4_choose).room s m args below meth c H locs 0 0 Q (F0 m 6 ls []) := by
    intro n
    induction n with
    | zero =>
      intro x7 x8 fq1 H locs ls hf
      exact absurd (show none = some res from hf) (fun h => nomatch h)
    | succ n ih =>
      intro x7 x8 fq1 H locs ls hf hP hD hS hl
      rw [f_X4_choose_6] at hf
      refine lv_iload hx hb dX4_choose_6 (lv_at hl 5 rfl) ?_
      refine lv_if_lt (tgt := 85) hx hb dX4_choose_8 (by decide) (fun c1 => ?_) (fun c1 => ?_)
      · have hf := it_t hf c1
        have e9 := Option.some.inj hf
        rw [hQ]
        exact W.vret hx hb hr (fun t ht hW => ⟨⟨fq1, rfl, e9, ⟨by rw [ht]; exact hP, va_K.moved hW.alike hK, hD⟩⟩, hS.F ht⟩) hS.2.2 dX4_choose_85
      · have hf := it_f hf c1
        refine lv_lload hx hb dX4_choose_11 (lv_at hl 2 rfl) ?_
        refine lv_lload_n hx hb dX4_choose_13 rfl (lv_at hl 1 rfl) ?_
        refine lv_iload hx hb dX4_choose_14 (lv_at hl 4 rfl) ?_
        refine lv_iload hx hb dX4_choose_16 (lv_at hl 5 rfl) ?_
        refine lv_isub hx hb dX4_choose_18 ?_
        refine lv_i2l (v := (x7 - x8).toInt64) hx hb dX4_choose_19 rfl ?_
        refine lv_lmul hx hb dX4_choose_20 ?_
        refine lv_ladd hx hb dX4_choose_21 ?_
        refine lv_aload_n hx hb dX4_choose_22 rfl (lv_at hl 0 rfl) ?_
        refine lv_iload hx hb dX4_choose_23 (lv_at hl 4 rfl) ?_
        obtain ⟨g2, hf⟩ := gd_s hf
        refine va_lald hx hb hK hP 0 1 (f := fq0) (rwl o_AJ) rfl (vpb_in g2) dX4_choose_25 ?_
        refine lv_ladd hx hb dX4_choose_26 ?_
        refine lv_topl (fun v3 ev3 => ?_)
        have hf := lz_s hf v3 ev3
        refine lv_lstore (lv' := [(9, .long v3), (0, .ref aq0), (2, .long p2), (4, .long p4), (6, .ref aq1), (7, .int x7), (8, .int x8)]) hx hb dX4_choose_27 hl (by decide) rfl (fun ls hl => ?_)
        refine lv_aload hx hb dX4_choose_29 (lv_at hl 4 rfl) ?_
        refine lv_iload hx hb dX4_choose_31 (lv_at hl 6 rfl) ?_
        refine lv_lload hx hb dX4_choose_33 (lv_at hl 0 rfl) ?_
        refine lv_aload_n hx hb dX4_choose_35 rfl (lv_at hl 1 rfl) ?_
        refine lv_iload hx hb dX4_choose_36 (lv_at hl 6 rfl) ?_
        obtain ⟨g4, hf⟩ := gd_s hf
        refine va_lald hx hb hK hP 0 1 (f := fq0) (rwl o_AJ) rfl (vpb_in g4) dX4_choose_38 ?_
        refine W.lcmp hx hb dX4_choose_39 ?_
        refine lv_if_ge (tgt := 48) hx hb dX4_choose_40 (by decide) (fun c5 => ?_) (fun c5 => ?_)
        · have hf := it_t hf c5
          refine lv_iload hx hb dX4_choose_48 (lv_at hl 6 rfl) ?_
          exact w50 (f_X4_choose_6 F nq0 fq0 nq1 p1 p2 p4 n) ih x7 x8 x8 x8 fq1 H locs ls hf hP hD hS (lv_sub hl [1, 2, 3, 4, 5, 6] rfl)
        · have hf := it_f hf c5
          refine lv_iload hx hb dX4_choose_43 (lv_at hl 5 rfl) ?_
          refine lv_goto (tgt := 50) hx hb dX4_choose_45 (by decide) ?_
          exact w50 (f_X4_choose_6 F nq0 fq0 nq1 p1 p2 p4 n) ih x7 x8 x8 x7 fq1 H locs ls hf hP hD hS (lv_sub hl [1, 2, 3, 4, 5, 6] rfl)
  have hen : entryFrame m args 11 = entryFrame m (([.ref aq0, .int p1, .long p2, .long p4, .ref aq1] : List Value).toArray) 11 := by rw [hargs]
  have hl := lv_entry ([.ref aq0, .int p1, .long p2, .long p4, .ref aq1]) (n := 11) (Nat.le_of_ble_eq_true rfl)
  rw [hen, lg_entry_eq]
  generalize (lg_sl ([.ref aq0, .int p1, .long p2, .long p4, .ref aq1]) ++ List.replicate (11 - (lg_sl ([.ref aq0, .int p1, .long p2, .long p4, .ref aq1])).length) Slot.unset).toArray = ls at hl ⊢
  have hl : lv_has ls 11 [(0, .ref aq0), (1, .int p1), (2, .long p2), (4, .long p4), (6, .ref aq1)] := hl
  unfold f_X4_choose at hf
  obtain ⟨H, hHe⟩ : ∃ z, z = s.heap := ⟨_, rfl⟩
  obtain ⟨locs, hLe⟩ : ∃ z : List Loc, z = [] := ⟨_, rfl⟩
  rw [← hLe]
  have hS : va_S A s.heap H locs := by rw [hHe, hLe]; exact hS
  have hP : va_P D vwCl (wAJ K aq0 nq0 fq0 ++ wAI K aq1 nq1 fq1) H := by rw [hHe]; exact hP
  have hgo : W p l e (headSpec wz_X4_choose r_X4_choose).room s m args below meth c H locs 0 0 Q (F0 m 0 ls []) := by
    refine lv_iload_n hx hb dX4_choose_0 rfl (lv_at hl 1 rfl) ?_
    refine lv_istore (lv' := [(7, .int p1), (0, .ref aq0), (1, .int p1), (2, .long p2), (4, .long p4), (6, .ref aq1)]) hx hb dX4_choose_1 hl (by decide) rfl (fun ls hl => ?_)
    refine lv_iload_n hx hb dX4_choose_3 rfl (lv_at hl 2 rfl) ?_
    refine lv_istore (lv' := [(8, .int p1), (7, .int p1), (0, .ref aq0), (1, .int p1), (2, .long p2), (4, .long p4), (6, .ref aq1)]) hx hb dX4_choose_4 hl (by decide) rfl (fun ls hl => ?_)
    exact w6 F p1 p1 fq1 H locs ls hf hP hD hS (lv_sub hl [2, 4, 5, 6, 1, 0] rfl)
  rw [hHe] at hgo
  exact hgo

def wz_X4_spend : List Cond := .code yX4_spend cX4_spend 7 (some .long) :: wsL_law
abbrev r_X4_spend : Room := { frames := 0, cells := 0, slots := 0, locals := 0 }
set_option maxHeartbeats 4000000 in
set_option maxRecDepth 100000 in
theorem c_X4_spend (l : Launch) (D : va_G) (K : Nat → ClassId) (F : Nat) (aq0 nq0 : Nat) (fq0 : (Nat → Int64)) (p1 : Int32) (p2 : Int32) (p3 : Int64) (p5 : Int64) (res : Int64) (hf : f_X4_spend F nq0 fq0 p1 p2 p3 p5 = some res) : Met l yX4_spend wz_X4_spend r_X4_spend (va_Pc [.ref aq0, .int p1, .int p2, .long p3, .long p5] (PR D K (wAJ K aq0 nq0 fq0))) (va_Ql (fun r (_ : Unit) => r = res) BN nOne) 0 0 nOne := by
  refine Met.ofW (cc := cX4_spend) (maxL := 7) (ret := (some .long)) (by decide) rfl ?_
  intro p e s m args below meth c s₁ B hml hv
  obtain ⟨hargs, hP, hK⟩ := hv
  have hx := B.exec
  have hb := B.bytes
  have hr := B.returns
  have hts := atoms_spec (ws := wz_X4_spend) B.pre
  have htl : ∀ w ∈ wsL_law, w.before args s = true := fun w h => hts w (List.mem_cons_of_mem _ h)
  have hown : s.vm.findClass RX4 = some m.cls := findClass_of_methodNamed B.named
  have hlocks := B.notSynchronized
  have hS : va_S nOne s.heap s.heap [] := va_S.rf
  suffices hgo : ∀ Q : State → Prop, Q = MQ below (va_Ql (fun r (_ : Unit) => r = res) BN nOne) args s 0 0 nOne → W p l e (headSpec wz_X4_spend r_X4_spend).room s m args below meth c s.heap [] 0 0 Q (entryFrame m args 7) from hgo _ rfl
  intro Q hQ
  have hen : entryFrame m args 7 = entryFrame m (([.ref aq0, .int p1, .int p2, .long p3, .long p5] : List Value).toArray) 7 := by rw [hargs]
  have hl := lv_entry ([.ref aq0, .int p1, .int p2, .long p3, .long p5]) (n := 7) (Nat.le_of_ble_eq_true rfl)
  rw [hen, lg_entry_eq]
  generalize (lg_sl ([.ref aq0, .int p1, .int p2, .long p3, .long p5]) ++ List.replicate (7 - (lg_sl ([.ref aq0, .int p1, .int p2, .long p3, .long p5])).length) Slot.unset).toArray = ls at hl ⊢
  have hl : lv_has ls 7 [(0, .ref aq0), (1, .int p1), (2, .int p2), (3, .long p3), (5, .long p5)] := hl
  unfold f_X4_spend at hf
  obtain ⟨H, hHe⟩ : ∃ z, z = s.heap := ⟨_, rfl⟩
  obtain ⟨locs, hLe⟩ : ∃ z : List Loc, z = [] := ⟨_, rfl⟩
  rw [← hLe]
  have hS : va_S nOne s.heap H locs := by rw [hHe, hLe]; exact hS
  have hP : va_P D vwCl (wAJ K aq0 nq0 fq0) H := by rw [hHe]; exact hP
  have hgo : W p l e (headSpec wz_X4_spend r_X4_spend).room s m args below meth c H locs 0 0 Q (F0 m 0 ls []) := by
    refine lv_aload_n hx hb dX4_spend_0 rfl (lv_at hl 0 rfl) ?_
    refine lv_iload_n hx hb dX4_spend_1 rfl (lv_at hl 2 rfl) ?_
    obtain ⟨g1, hf⟩ := gd_s hf
    refine va_lald hx hb hK hP 0 1 (f := fq0) o_AJ rfl (vpb_in g1) dX4_spend_2 ?_
    refine lv_lload_n hx hb dX4_spend_3 rfl (lv_at hl 3 rfl) ?_
    refine lv_iload_n hx hb dX4_spend_4 rfl (lv_at hl 2 rfl) ?_
    refine lv_iload_n hx hb dX4_spend_5 rfl (lv_at hl 1 rfl) ?_
    refine lv_isub hx hb dX4_spend_6 ?_
    refine lv_i2l (v := (p2 - p1).toInt64) hx hb dX4_spend_7 rfl ?_
    refine lv_lmul hx hb dX4_spend_8 ?_
    refine lv_ladd hx hb dX4_spend_9 ?_
    refine lv_topl (fun v2 ev2 => ?_)
    have hf := lz_s hf v2 ev2
    refine lv_iload_n hx hb dX4_spend_10 rfl (lv_at hl 2 rfl) ?_
    refine lv_iload_n hx hb dX4_spend_11 rfl (lv_at hl 1 rfl) ?_
    refine lv_icmp_le (tgt := 20) hx hb dX4_spend_12 (by decide) (fun c3 => ?_) (fun c3 => ?_)
    · have hf := it_t hf c3
      refine lv_lconst (v := (0 : Int64)) hx hb dX4_spend_20 (by decide) ?_
      refine lv_ladd hx hb dX4_spend_21 ?_
      have e9 := Option.some.inj hf
      rw [hQ]
      exact W.lret (v := (v2 + (0 : Int64))) hx hb hr (fun t ht hW => ⟨⟨(v2 + (0 : Int64)), (), rfl, e9, trivial⟩, hS.F ht⟩) hS.2.2 dX4_spend_22
    · have hf := it_f hf c3
      refine lv_lload hx hb dX4_spend_15 (lv_at hl 4 rfl) ?_
      refine lv_goto (tgt := 21) hx hb dX4_spend_17 (by decide) ?_
      refine lv_ladd hx hb dX4_spend_21 ?_
      have e9 := Option.some.inj hf
      rw [hQ]
      exact W.lret (v := (v2 + p5)) hx hb hr (fun t ht hW => ⟨⟨(v2 + p5), (), rfl, e9, trivial⟩, hS.F ht⟩) hS.2.2 dX4_spend_22
  rw [hHe] at hgo
  exact hgo
