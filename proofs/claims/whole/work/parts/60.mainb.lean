def wz_X10_stuckAt : List Cond := .code yX10_stuckAt cX10_stuckAt 2 (some .int) :: wsL_law
abbrev r_X10_stuckAt : Room := { frames := 5, cells := 0, slots := 0, locals := 120 }
set_option maxHeartbeats 4000000 in
set_option maxRecDepth 100000 in
theorem c_X10_stuckAt (l : Launch) (D : va_G) (K : Nat → ClassId) (F : Nat) (hMn : Nat → Nat) (rMn0 : Nat) (rMn3 : Nat) (rMn4 : Nat) (rMn5 : Nat) (rMn7 : Nat) (rMn8 : Nat) (rMn9 : Nat) (rMn10 : Nat) (hDr : Nat → Nat) (rDr3 : Nat) (rDr4 : Nat) (hDw : Nat → Nat) (hRo : Nat → Nat) (sz : Nat) (sMn : MS) (sDr : MS) (sDw : MS) (sRo : MS) (p1 : Int32) (res : Int32 × Nat × MS × MS × MS) (hf : f_X10_stuckAt F sRo p1 sMn sDr sDw = some res) : Met l yX10_stuckAt wz_X10_stuckAt r_X10_stuckAt (va_Pc [.ref (hMn 99), .int p1] (PW D K (wMn K hMn rMn0 (hRo 99) rMn3 rMn4 rMn5 (hDr 99) rMn7 rMn8 rMn9 rMn10 sMn ++ wDr K hDr (hDw 99) rDr3 rDr4 sDr ++ wDw K hDw sDw ++ wRo K hRo sRo) sz)) (va_Qi (fun r u => r = res.1 ∧ u = res.2) (fun u t => BW D K (va_A (wMn K hMn rMn0 (hRo 99) rMn3 rMn4 rMn5 (hDr 99) rMn7 rMn8 rMn9 rMn10 sMn ++ wDr K hDr (hDw 99) rDr3 rDr4 sDr ++ wDw K hDw sDw ++ wRo K hRo sRo) sz) (match u.1 with | _ => wMn K hMn rMn0 (hRo 99) rMn3 rMn4 rMn5 (hDr 99) rMn7 rMn8 rMn9 rMn10 u.2.1 ++ wDr K hDr (hDw 99) rDr3 rDr4 u.2.2.1 ++ wDw K hDw u.2.2.2 ++ wRo K hRo sRo) t) (va_A (wMn K hMn rMn0 (hRo 99) rMn3 rMn4 rMn5 (hDr 99) rMn7 rMn8 rMn9 rMn10 sMn ++ wDr K hDr (hDw 99) rDr3 rDr4 sDr ++ wDw K hDw sDw ++ wRo K hRo sRo) sz)) 0 0 (va_A (wMn K hMn rMn0 (hRo 99) rMn3 rMn4 rMn5 (hDr 99) rMn7 rMn8 rMn9 rMn10 sMn ++ wDr K hDr (hDw 99) rDr3 rDr4 sDr ++ wDw K hDw sDw ++ wRo K hRo sRo) sz) := by
  refine Met.ofW (cc := cX10_stuckAt) (maxL := 2) (ret := (some .int)) (by decide) rfl ?_
  intro p e s m args below meth c s₁ B hml hv
  obtain ⟨hargs, hsz, hP, hK, hD0⟩ := hv
  have hx := B.exec
  have hb := B.bytes
  have hr := B.returns
  have hts := atoms_spec (ws := wz_X10_stuckAt) B.pre
  have htl : ∀ w ∈ wsL_law, w.before args s = true := fun w h => hts w (List.mem_cons_of_mem _ h)
  have hown : s.vm.findClass RX10 = some m.cls := findClass_of_methodNamed B.named
  have hlocks := B.notSynchronized
  subst hsz
  have hD := hD0.self (sz := s.heap.size)
  generalize hAe : va_A (wMn K hMn rMn0 (hRo 99) rMn3 rMn4 rMn5 (hDr 99) rMn7 rMn8 rMn9 rMn10 sMn ++ wDr K hDr (hDw 99) rDr3 rDr4 sDr ++ wDw K hDw sDw ++ wRo K hRo sRo) s.heap.size = A at hD ⊢
  have hA : ∀ q : Nat, s.heap.size ≤ q → A q := fun q h => by rw [← hAe]; exact Or.inr h
  have hS : va_S A s.heap s.heap [] := va_S.rf
  have iX1 : ∀ w ∈ wsX10, w ∈ wz_X10_stuckAt := fun w h => List.mem_cons_of_mem _ (inlX1 w h)
  have iX10 : ∀ w ∈ wsX100, w ∈ wz_X10_stuckAt := fun w h => List.mem_cons_of_mem _ (inlX10 w h)
  suffices hgo : ∀ Q : State → Prop, Q = MQ below (va_Qi (fun r u => r = res.1 ∧ u = res.2) (fun u t => BW D K A (match u.1 with | _ => wMn K hMn rMn0 (hRo 99) rMn3 rMn4 rMn5 (hDr 99) rMn7 rMn8 rMn9 rMn10 u.2.1 ++ wDr K hDr (hDw 99) rDr3 rDr4 u.2.2.1 ++ wDw K hDw u.2.2.2 ++ wRo K hRo sRo) t) A) args s 0 0 A → W p l e (headSpec wz_X10_stuckAt r_X10_stuckAt).room s m args below meth c s.heap [] 0 0 Q (entryFrame m args 2) from hgo _ rfl
  intro Q hQ
  have hen : entryFrame m args 2 = entryFrame m (([.ref (hMn 99), .int p1] : List Value).toArray) 2 := by rw [hargs]
  have hl := lv_entry ([.ref (hMn 99), .int p1]) (n := 2) (Nat.le_of_ble_eq_true rfl)
  rw [hen, lg_entry_eq]
  generalize (lg_sl ([.ref (hMn 99), .int p1]) ++ List.replicate (2 - (lg_sl ([.ref (hMn 99), .int p1])).length) Slot.unset).toArray = ls at hl ⊢
  have hl : lv_has ls 2 [(0, .ref (hMn 99)), (1, .int p1)] := hl
  unfold f_X10_stuckAt at hf
  obtain ⟨H, hHe⟩ : ∃ z, z = s.heap := ⟨_, rfl⟩
  obtain ⟨locs, hLe⟩ : ∃ z : List Loc, z = [] := ⟨_, rfl⟩
  rw [← hLe]
  have hS : va_S A s.heap H locs := by rw [hHe, hLe]; exact hS
  have hP : va_P D vwCl (wMn K hMn rMn0 (hRo 99) rMn3 rMn4 rMn5 (hDr 99) rMn7 rMn8 rMn9 rMn10 sMn ++ wDr K hDr (hDw 99) rDr3 rDr4 sDr ++ wDw K hDw sDw ++ wRo K hRo sRo) H := by rw [hHe]; exact hP
  have hgo : W p l e (headSpec wz_X10_stuckAt r_X10_stuckAt).room s m args below meth c H locs 0 0 Q (F0 m 0 ls []) := by
    refine lv_aload_n hx hb dX10_stuckAt_0 rfl (lv_at hl 0 rfl) ?_
    refine lv_iload_n hx hb dX10_stuckAt_1 rfl (lv_at hl 1 rfl) ?_
    obtain ⟨o1, go1, hf⟩ := bd_s hf
    refine ro_Vi (As := [.int p1]) (rest := []) ⟨hx, hb, hml, hown, hts⟩ (c_X10_isRuleOfRoad l D K F hMn rMn0 rMn3 rMn4 rMn5 (hDr 99) rMn7 rMn8 rMn9 rMn10 hRo sMn sRo p1 o1 go1) (cwV 1 hts (gcV_X10_isRuleOfRoad (mB41 _ (List.mem_of_getElem? (i := 0) rfl))) rfl rfl rfl hdV_X10_isRuleOfRoad ⟨Nat.le_of_ble_eq_true rfl, Nat.le_of_ble_eq_true rfl⟩) hK hP hS (va_PL (cs := [wMn K hMn rMn0 (hRo 99) rMn3 rMn4 rMn5 (hDr 99) rMn7 rMn8 rMn9 rMn10 sMn, wDr K hDr (hDw 99) rDr3 rDr4 sDr, wDw K hDw sDw, wRo K hRo sRo]) (cc := [wMn K hMn rMn0 (hRo 99) rMn3 rMn4 rMn5 (hDr 99) rMn7 rMn8 rMn9 rMn10 sMn, wRo K hRo sRo]) hP (fl4 _ _ _ _) [0, 3] rfl (fl2 _ _)) (va_recv hK hP (ci := 9) (q0 := 0) rfl (rwl (rwl (rwl o_Mn)))) rfl hl.1 rfl (Nat.le_of_ble_eq_true rfl) dX10_stuckAt_2 ⟨Nat.zero_le _, Nat.zero_le _⟩ (fun H locs hP hS => ?_)
    refine lv_if_ne (tgt := 14) hx hb dX10_stuckAt_5 (by decide) (fun c2 => ?_) (fun c2 => ?_)
    · have hf := it_f hf c2
      refine lv_aload_n hx hb dX10_stuckAt_14 rfl (lv_at hl 0 rfl) ?_
      refine va_get (D := D) (ci := 9) (v := .ref (hDr 99)) (C := RX10) (T := TX10) (N := 14) hx hb hts iX10 hown hK hP 0 (rwl (rwl (rwl o_Mn))) rfl 6 (by decide) (htl _ (mB2 _ (List.mem_of_getElem? (i := 7) rfl))) (fun _ h9 => h9) rfl dX10_stuckAt_15 ?_
      refine lv_aload_n hx hb dX10_stuckAt_18 rfl (lv_at hl 0 rfl) ?_
      refine va_get (D := D) (ci := 9) (v := .ref (hRo 99)) (C := RX10) (T := TX10) (N := 14) hx hb hts iX10 hown hK hP 0 (rwl (rwl (rwl o_Mn))) rfl 2 (by decide) (htl _ (mB1 _ (List.mem_of_getElem? (i := 18) rfl))) (fun _ h9 => h9) rfl dX10_stuckAt_19 ?_
      refine lv_iload_n hx hb dX10_stuckAt_22 rfl (lv_at hl 1 rfl) ?_
      obtain ⟨o3, go3, hf⟩ := bd_s hf
      refine rk_Vi (wn := wMn K hMn rMn0 (hRo 99) rMn3 rMn4 rMn5 (hDr 99) rMn7 rMn8 rMn9 rMn10 sMn ++ wDr K hDr (hDw 99) rDr3 rDr4 o3.2.1 ++ wDw K hDw o3.2.2 ++ wRo K hRo sRo) [wMn K hMn rMn0 (hRo 99) rMn3 rMn4 rMn5 (hDr 99) rMn7 rMn8 rMn9 rMn10 sMn, wDr K hDr (hDw 99) rDr3 rDr4 sDr, wDw K hDw sDw, wRo K hRo sRo] [wDr K hDr (hDw 99) rDr3 rDr4 sDr, wDw K hDw sDw, wRo K hRo sRo] [wDr K hDr (hDw 99) rDr3 rDr4 o3.2.1, wDw K hDw o3.2.2, wRo K hRo sRo] [wMn K hMn rMn0 (hRo 99) rMn3 rMn4 rMn5 (hDr 99) rMn7 rMn8 rMn9 rMn10 sMn, wDr K hDr (hDw 99) rDr3 rDr4 o3.2.1, wDw K hDw o3.2.2, wRo K hRo sRo] (As := [.ref (hRo 99), .int p1]) (rest := []) ⟨hx, hb, hml, hown, hts⟩ (c_X1_travelOpen l D K F hDr rDr3 rDr4 hDw hRo H.size sDr sDw sRo p1 o3 go3) (cwV 2 hts (gcV_X1_travelOpen (mB41 _ (List.mem_of_getElem? (i := 4) rfl))) rfl rfl rfl hdV_X1_travelOpen ⟨Nat.le_of_ble_eq_true rfl, Nat.le_of_ble_eq_true rfl⟩) hK hP hD hS hA [1, 2, 3] (fl4 _ _ _ _) rfl (by decide) (fl3 _ _ _) (fl3 _ _ _) rfl rfl (fl4 _ _ _ _) (va_recv hK hP (ci := 1) (q0 := (1 + 0)) rfl (rwl (rwl (rwr ln_Mn o_Dr)))) rfl hl.1 rfl (Nat.le_of_ble_eq_true rfl) dX10_stuckAt_23 ⟨Nat.zero_le _, Nat.zero_le _⟩ (fun H locs hP hD hS => ?_)
      have hP : va_P D vwCl (wMn K hMn rMn0 (hRo 99) rMn3 rMn4 rMn5 (hDr 99) rMn7 rMn8 rMn9 rMn10 sMn ++ wDr K hDr (hDw 99) rDr3 rDr4 o3.2.1 ++ wDw K hDw o3.2.2 ++ wRo K hRo sRo) H := hP
      have hD : va_D A (wMn K hMn rMn0 (hRo 99) rMn3 rMn4 rMn5 (hDr 99) rMn7 rMn8 rMn9 rMn10 sMn ++ wDr K hDr (hDw 99) rDr3 rDr4 o3.2.1 ++ wDw K hDw o3.2.2 ++ wRo K hRo sRo) := hD
      refine lv_pop hx hb dX10_stuckAt_26 rfl ?_
      refine lv_aload_n hx hb dX10_stuckAt_27 rfl (lv_at hl 0 rfl) ?_
      refine lv_aload_n hx hb dX10_stuckAt_28 rfl (lv_at hl 0 rfl) ?_
      refine va_get (D := D) (ci := 9) (v := .ref (hDr 99)) (C := RX10) (T := TX10) (N := 14) hx hb hts iX10 hown hK hP 0 (rwl (rwl (rwl o_Mn))) rfl 6 (by decide) (htl _ (mB2 _ (List.mem_of_getElem? (i := 7) rfl))) (fun _ h9 => h9) rfl dX10_stuckAt_29 ?_
      refine va_get (D := D) (ci := 1) (v := .int (o3.2.1.1 0)) (C := RX1) (T := TX1) (N := 6) hx hb hts iX1 hown hK hP (1 + 0) (rwl (rwl (rwr ln_Mn o_Dr))) rfl 0 (by decide) (htl _ (mB42 _ (List.mem_of_getElem? (i := 8) rfl))) (fun _ h9 => h9) rfl dX10_stuckAt_32 ?_
      obtain ⟨o4, go4, hf⟩ := bd_s hf
      refine rk_Vi (wn := wMn K hMn rMn0 (hRo 99) rMn3 rMn4 rMn5 (hDr 99) rMn7 rMn8 rMn9 rMn10 o4.2 ++ wDr K hDr (hDw 99) rDr3 rDr4 o3.2.1 ++ wDw K hDw o3.2.2 ++ wRo K hRo sRo) [wMn K hMn rMn0 (hRo 99) rMn3 rMn4 rMn5 (hDr 99) rMn7 rMn8 rMn9 rMn10 sMn, wDr K hDr (hDw 99) rDr3 rDr4 o3.2.1, wDw K hDw o3.2.2, wRo K hRo sRo] [wMn K hMn rMn0 (hRo 99) rMn3 rMn4 rMn5 (hDr 99) rMn7 rMn8 rMn9 rMn10 sMn] [wMn K hMn rMn0 (hRo 99) rMn3 rMn4 rMn5 (hDr 99) rMn7 rMn8 rMn9 rMn10 o4.2] [wMn K hMn rMn0 (hRo 99) rMn3 rMn4 rMn5 (hDr 99) rMn7 rMn8 rMn9 rMn10 o4.2, wDr K hDr (hDw 99) rDr3 rDr4 o3.2.1, wDw K hDw o3.2.2, wRo K hRo sRo] (As := [.int (o3.2.1.1 0)]) (rest := []) ⟨hx, hb, hml, hown, hts⟩ (c_X10_accept l D K F hMn rMn0 (hRo 99) rMn3 rMn4 rMn5 (hDr 99) rMn7 rMn8 rMn9 rMn10 H.size sMn (o3.2.1.1 0) o4 go4) (cwV 1 hts (gcV_X10_accept (mB17 _ (List.mem_of_getElem? (i := 14) rfl))) rfl rfl rfl hdV_X10_accept ⟨Nat.le_of_ble_eq_true rfl, Nat.le_of_ble_eq_true rfl⟩) hK hP hD hS hA [0] (fl4 _ _ _ _) rfl (by decide) (fl1 _) (fl1 _) rfl rfl (fl4 _ _ _ _) (va_recv hK hP (ci := 9) (q0 := 0) rfl (rwl (rwl (rwl o_Mn)))) rfl hl.1 rfl (Nat.le_of_ble_eq_true rfl) dX10_stuckAt_35 ⟨Nat.zero_le _, Nat.zero_le _⟩ (fun H locs hP hD hS => ?_)
      have hP : va_P D vwCl (wMn K hMn rMn0 (hRo 99) rMn3 rMn4 rMn5 (hDr 99) rMn7 rMn8 rMn9 rMn10 o4.2 ++ wDr K hDr (hDw 99) rDr3 rDr4 o3.2.1 ++ wDw K hDw o3.2.2 ++ wRo K hRo sRo) H := hP
      have hD : va_D A (wMn K hMn rMn0 (hRo 99) rMn3 rMn4 rMn5 (hDr 99) rMn7 rMn8 rMn9 rMn10 o4.2 ++ wDr K hDr (hDw 99) rDr3 rDr4 o3.2.1 ++ wDw K hDw o3.2.2 ++ wRo K hRo sRo) := hD
      have e9 := Option.some.inj hf
      rw [hQ]
      exact W.iret (v := o4.1) hx hb hr (fun t ht hW => ⟨⟨o4.1, (0, o4.2, o3.2.1, o3.2.2), rfl, ⟨pr1 e9, pr2 e9⟩, ⟨by rw [ht]; exact hP, va_K.moved hW.alike hK, hD⟩⟩, hS.F ht⟩) hS.2.2 dX10_stuckAt_38
    · have hf := it_t hf c2
      refine lv_aload_n hx hb dX10_stuckAt_8 rfl (lv_at hl 0 rfl) ?_
      refine lv_iconst (v := (1 : Int32)) hx hb dX10_stuckAt_9 (by decide) ?_
      obtain ⟨o5, go5, hf⟩ := bd_s hf
      refine rk_Vi (wn := wMn K hMn rMn0 (hRo 99) rMn3 rMn4 rMn5 (hDr 99) rMn7 rMn8 rMn9 rMn10 o5.2 ++ wDr K hDr (hDw 99) rDr3 rDr4 sDr ++ wDw K hDw sDw ++ wRo K hRo sRo) [wMn K hMn rMn0 (hRo 99) rMn3 rMn4 rMn5 (hDr 99) rMn7 rMn8 rMn9 rMn10 sMn, wDr K hDr (hDw 99) rDr3 rDr4 sDr, wDw K hDw sDw, wRo K hRo sRo] [wMn K hMn rMn0 (hRo 99) rMn3 rMn4 rMn5 (hDr 99) rMn7 rMn8 rMn9 rMn10 sMn] [wMn K hMn rMn0 (hRo 99) rMn3 rMn4 rMn5 (hDr 99) rMn7 rMn8 rMn9 rMn10 o5.2] [wMn K hMn rMn0 (hRo 99) rMn3 rMn4 rMn5 (hDr 99) rMn7 rMn8 rMn9 rMn10 o5.2, wDr K hDr (hDw 99) rDr3 rDr4 sDr, wDw K hDw sDw, wRo K hRo sRo] (As := [.int (1 : Int32)]) (rest := []) ⟨hx, hb, hml, hown, hts⟩ (c_X10_refuse l D K F hMn rMn0 (hRo 99) rMn3 rMn4 rMn5 (hDr 99) rMn7 rMn8 rMn9 rMn10 H.size sMn (1 : Int32) o5 go5) (cwV 1 hts (gcV_X10_refuse (mB7 _ (List.mem_of_getElem? (i := 18) rfl))) rfl rfl rfl hdV_X10_refuse ⟨Nat.le_of_ble_eq_true rfl, Nat.le_of_ble_eq_true rfl⟩) hK hP hD hS hA [0] (fl4 _ _ _ _) rfl (by decide) (fl1 _) (fl1 _) rfl rfl (fl4 _ _ _ _) (va_recv hK hP (ci := 9) (q0 := 0) rfl (rwl (rwl (rwl o_Mn)))) rfl hl.1 rfl (Nat.le_of_ble_eq_true rfl) dX10_stuckAt_10 ⟨Nat.zero_le _, Nat.zero_le _⟩ (fun H locs hP hD hS => ?_)
      have hP : va_P D vwCl (wMn K hMn rMn0 (hRo 99) rMn3 rMn4 rMn5 (hDr 99) rMn7 rMn8 rMn9 rMn10 o5.2 ++ wDr K hDr (hDw 99) rDr3 rDr4 sDr ++ wDw K hDw sDw ++ wRo K hRo sRo) H := hP
      have hD : va_D A (wMn K hMn rMn0 (hRo 99) rMn3 rMn4 rMn5 (hDr 99) rMn7 rMn8 rMn9 rMn10 o5.2 ++ wDr K hDr (hDw 99) rDr3 rDr4 sDr ++ wDw K hDw sDw ++ wRo K hRo sRo) := hD
      have e9 := Option.some.inj hf
      rw [hQ]
      exact W.iret (v := o5.1) hx hb hr (fun t ht hW => ⟨⟨o5.1, (0, o5.2, sDr, sDw), rfl, ⟨pr1 e9, pr2 e9⟩, ⟨by rw [ht]; exact hP, va_K.moved hW.alike hK, hD⟩⟩, hS.F ht⟩) hS.2.2 dX10_stuckAt_13
  rw [hHe] at hgo
  exact hgo

def wz_X10_acceptFraction : List Cond := .code yX10_acceptFraction cX10_acceptFraction 2 (some .long) :: wsL_law
abbrev r_X10_acceptFraction : Room := { frames := 0, cells := 0, slots := 0, locals := 0 }
set_option maxHeartbeats 4000000 in
set_option maxRecDepth 100000 in
theorem c_X10_acceptFraction (l : Launch) (D : va_G) (K : Nat → ClassId) (F : Nat) (hMn : Nat → Nat) (rMn0 : Nat) (rMn2 : Nat) (rMn3 : Nat) (rMn4 : Nat) (rMn5 : Nat) (rMn6 : Nat) (rMn7 : Nat) (rMn8 : Nat) (rMn9 : Nat) (hFr : Nat → Nat) (sz : Nat) (sMn : MS) (sFr : MS) (p1 : Int32) (res : Int64 × MS) (hf : f_X10_acceptFraction F sFr p1 sMn = some res) : Met l yX10_acceptFraction wz_X10_acceptFraction r_X10_acceptFraction (va_Pc [.ref (hMn 99), .int p1] (PW D K (wMn K hMn rMn0 rMn2 rMn3 rMn4 rMn5 rMn6 rMn7 rMn8 rMn9 (hFr 99) sMn ++ wFr K hFr sFr) sz)) (va_Ql (fun r u => r = res.1 ∧ u = res.2) (fun u t => BW D K (va_A (wMn K hMn rMn0 rMn2 rMn3 rMn4 rMn5 rMn6 rMn7 rMn8 rMn9 (hFr 99) sMn ++ wFr K hFr sFr) sz) (wMn K hMn rMn0 rMn2 rMn3 rMn4 rMn5 rMn6 rMn7 rMn8 rMn9 (hFr 99) u ++ wFr K hFr sFr) t) (va_A (wMn K hMn rMn0 rMn2 rMn3 rMn4 rMn5 rMn6 rMn7 rMn8 rMn9 (hFr 99) sMn ++ wFr K hFr sFr) sz)) 0 0 (va_A (wMn K hMn rMn0 rMn2 rMn3 rMn4 rMn5 rMn6 rMn7 rMn8 rMn9 (hFr 99) sMn ++ wFr K hFr sFr) sz) := by
  refine Met.ofW (cc := cX10_acceptFraction) (maxL := 2) (ret := (some .long)) (by decide) rfl ?_
  intro p e s m args below meth c s₁ B hml hv
  obtain ⟨hargs, hsz, hP, hK, hD0⟩ := hv
  have hx := B.exec
  have hb := B.bytes
  have hr := B.returns
  have hts := atoms_spec (ws := wz_X10_acceptFraction) B.pre
  have htl : ∀ w ∈ wsL_law, w.before args s = true := fun w h => hts w (List.mem_cons_of_mem _ h)
  have hown : s.vm.findClass RX10 = some m.cls := findClass_of_methodNamed B.named
  have hlocks := B.notSynchronized
  subst hsz
  have hD := hD0.self (sz := s.heap.size)
  generalize hAe : va_A (wMn K hMn rMn0 rMn2 rMn3 rMn4 rMn5 rMn6 rMn7 rMn8 rMn9 (hFr 99) sMn ++ wFr K hFr sFr) s.heap.size = A at hD ⊢
  have hA : ∀ q : Nat, s.heap.size ≤ q → A q := fun q h => by rw [← hAe]; exact Or.inr h
  have hS : va_S A s.heap s.heap [] := va_S.rf
  have iX10 : ∀ w ∈ wsX100, w ∈ wz_X10_acceptFraction := fun w h => List.mem_cons_of_mem _ (inlX10 w h)
  have iX2 : ∀ w ∈ wsX20, w ∈ wz_X10_acceptFraction := fun w h => List.mem_cons_of_mem _ (inlX2 w h)
  suffices hgo : ∀ Q : State → Prop, Q = MQ below (va_Ql (fun r u => r = res.1 ∧ u = res.2) (fun u t => BW D K A (wMn K hMn rMn0 rMn2 rMn3 rMn4 rMn5 rMn6 rMn7 rMn8 rMn9 (hFr 99) u ++ wFr K hFr sFr) t) A) args s 0 0 A → W p l e (headSpec wz_X10_acceptFraction r_X10_acceptFraction).room s m args below meth c s.heap [] 0 0 Q (entryFrame m args 2) from hgo _ rfl
  intro Q hQ
  have hen : entryFrame m args 2 = entryFrame m (([.ref (hMn 99), .int p1] : List Value).toArray) 2 := by rw [hargs]
  have hl := lv_entry ([.ref (hMn 99), .int p1]) (n := 2) (Nat.le_of_ble_eq_true rfl)
  rw [hen, lg_entry_eq]
  generalize (lg_sl ([.ref (hMn 99), .int p1]) ++ List.replicate (2 - (lg_sl ([.ref (hMn 99), .int p1])).length) Slot.unset).toArray = ls at hl ⊢
  have hl : lv_has ls 2 [(0, .ref (hMn 99)), (1, .int p1)] := hl
  unfold f_X10_acceptFraction at hf
  obtain ⟨H, hHe⟩ : ∃ z, z = s.heap := ⟨_, rfl⟩
  obtain ⟨locs, hLe⟩ : ∃ z : List Loc, z = [] := ⟨_, rfl⟩
  rw [← hLe]
  have hS : va_S A s.heap H locs := by rw [hHe, hLe]; exact hS
  have hP : va_P D vwCl (wMn K hMn rMn0 rMn2 rMn3 rMn4 rMn5 rMn6 rMn7 rMn8 rMn9 (hFr 99) sMn ++ wFr K hFr sFr) H := by rw [hHe]; exact hP
  have hgo : W p l e (headSpec wz_X10_acceptFraction r_X10_acceptFraction).room s m args below meth c H locs 0 0 Q (F0 m 0 ls []) := by
    refine lv_aload_n hx hb dX10_acceptFraction_0 rfl (lv_at hl 0 rfl) ?_
    refine lv_iconst (v := (0 : Int32)) hx hb dX10_acceptFraction_1 (by decide) ?_
    refine va_put (D := D) (ci := 9) (v := .int (0 : Int32)) (ty := .int) (C := RX10) (T := TX10) (N := 14) hx hb hts iX10 tyX10 tyX10_ok nmX10 hown hK hP hD hS 0 (rwl o_Mn) rfl 11 (by decide) (htl _ (mB7 _ (List.mem_of_getElem? (i := 22) rfl))) (fun _ h9 => h9) rfl (by decide +kernel) rfl rfl (Nat.le_of_ble_eq_true rfl) dX10_acceptFraction_2 (fun H locs hP hD hS => ?_)
    have hP := cvP (stl si_Mn_11 (rlt o_Mn)) hP
    have hD := cvD (stl si_Mn_11 (rlt o_Mn)) hD
    obtain ⟨s1, es1⟩ : ∃ z, z = sI sMn 11 (0 : Int32) := ⟨_, rfl⟩
    have hP : va_P D vwCl (wMn K hMn rMn0 rMn2 rMn3 rMn4 rMn5 rMn6 rMn7 rMn8 rMn9 (hFr 99) s1 ++ wFr K hFr sFr) H := by rw [es1]; exact hP
    have hD : va_D A (wMn K hMn rMn0 rMn2 rMn3 rMn4 rMn5 rMn6 rMn7 rMn8 rMn9 (hFr 99) s1 ++ wFr K hFr sFr) := by rw [es1]; exact hD
    have hf := lz_s hf s1 es1
    refine lv_iload_n hx hb dX10_acceptFraction_5 rfl (lv_at hl 1 rfl) ?_
    refine lv_if_eq (tgt := 19) hx hb dX10_acceptFraction_6 (by decide) (fun c2 => ?_) (fun c2 => ?_)
    · have hf := it_t hf c2
      refine lv_aload_n hx hb dX10_acceptFraction_19 rfl (lv_at hl 0 rfl) ?_
      refine va_get (D := D) (ci := 9) (v := .ref (hFr 99)) (C := RX10) (T := TX10) (N := 14) hx hb hts iX10 hown hK hP 0 (rwl o_Mn) rfl 10 (by decide) (htl _ (mB2 _ (List.mem_of_getElem? (i := 23) rfl))) (fun _ h9 => h9) rfl dX10_acceptFraction_20 ?_
      refine va_get (D := D) (ci := 2) (v := .long (sFr.2.1 0)) (C := RX2) (T := TX2) (N := 2) hx hb hts iX2 hown hK hP (1 + 0) (rwr ln_Mn o_Fr) rfl 0 (by decide) (htl _ (mB44 _ (List.mem_of_getElem? (i := 10) rfl))) (fun _ h9 => h9) rfl dX10_acceptFraction_23 ?_
      have e9 := Option.some.inj hf
      rw [hQ]
      exact W.lret (v := (sFr.2.1 0)) hx hb hr (fun t ht hW => ⟨⟨(sFr.2.1 0), s1, rfl, ⟨pr1 e9, pr2 e9⟩, ⟨by rw [ht]; exact hP, va_K.moved hW.alike hK, hD⟩⟩, hS.F ht⟩) hS.2.2 dX10_acceptFraction_26
    · have hf := it_f hf c2
      refine lv_aload_n hx hb dX10_acceptFraction_9 rfl (lv_at hl 0 rfl) ?_
      refine va_get (D := D) (ci := 9) (v := .ref (hFr 99)) (C := RX10) (T := TX10) (N := 14) hx hb hts iX10 hown hK hP 0 (rwl o_Mn) rfl 10 (by decide) (htl _ (mB2 _ (List.mem_of_getElem? (i := 23) rfl))) (fun _ h9 => h9) rfl dX10_acceptFraction_10 ?_
      refine va_get (D := D) (ci := 2) (v := .long (sFr.2.1 1)) (C := RX2) (T := TX2) (N := 2) hx hb hts iX2 hown hK hP (1 + 0) (rwr ln_Mn o_Fr) rfl 1 (by decide) (htl _ (mB44 _ (List.mem_of_getElem? (i := 9) rfl))) (fun _ h9 => h9) rfl dX10_acceptFraction_13 ?_
      refine lv_goto (tgt := 26) hx hb dX10_acceptFraction_16 (by decide) ?_
      have e9 := Option.some.inj hf
      rw [hQ]
      exact W.lret (v := (sFr.2.1 1)) hx hb hr (fun t ht hW => ⟨⟨(sFr.2.1 1), s1, rfl, ⟨pr1 e9, pr2 e9⟩, ⟨by rw [ht]; exact hP, va_K.moved hW.alike hK, hD⟩⟩, hS.F ht⟩) hS.2.2 dX10_acceptFraction_26
  rw [hHe] at hgo
  exact hgo

theorem gcV_X1_reckonOdds {T0 : Cond} {own : String} {i : Nat} (h : Cond.methodLink own i yX1_reckonOdds ∈ wsL_law) : GoodIn (T0 :: wsL_law) (wsV own i RX1 yX1_reckonOdds wz_X1_reckonOdds) := gV h (mB42 _ (List.mem_of_getElem? (i := 18) rfl)) (mB42 _ (List.mem_of_getElem? (i := 19) rfl)) (mB2 _ (List.mem_of_getElem? (i := 6) rfl)) (mB42 _ (List.mem_of_getElem? (i := 20) rfl))
theorem hdV_X1_reckonOdds : yX1_reckonOdds.cls = RX1 ∧ yX1_reckonOdds.cls ≠ "java/lang/invoke/MethodHandle" ∧ yX1_reckonOdds.cls ≠ "java/lang/invoke/VarHandle" ∧ (parseMethodDescriptor yX1_reckonOdds.desc).map (fun d => d.parameters.length) = some 3 := by decide +kernel
theorem gcV_X10_acceptFraction {T0 : Cond} {own : String} {i : Nat} (h : Cond.methodLink own i yX10_acceptFraction ∈ wsL_law) : GoodIn (T0 :: wsL_law) (wsV own i RX10 yX10_acceptFraction wz_X10_acceptFraction) := gV h (mB44 _ (List.mem_of_getElem? (i := 6) rfl)) (mB44 _ (List.mem_of_getElem? (i := 7) rfl)) (mB1 _ (List.mem_of_getElem? (i := 2) rfl)) (mB44 _ (List.mem_of_getElem? (i := 8) rfl))
theorem hdV_X10_acceptFraction : yX10_acceptFraction.cls = RX10 ∧ yX10_acceptFraction.cls ≠ "java/lang/invoke/MethodHandle" ∧ yX10_acceptFraction.cls ≠ "java/lang/invoke/VarHandle" ∧ (parseMethodDescriptor yX10_acceptFraction.desc).map (fun d => d.parameters.length) = some 1 := by decide +kernel
def wz_X10_odds : List Cond := .code yX10_odds cX10_odds 3 (some .long) :: wsL_law
abbrev r_X10_odds : Room := { frames := 7, cells := 0, slots := 0, locals := 181 }
set_option maxHeartbeats 4000000 in
set_option maxRecDepth 100000 in
theorem c_X10_odds (l : Launch) (D : va_G) (K : Nat → ClassId) (F : Nat) (hMn : Nat → Nat) (rMn0 : Nat) (rMn3 : Nat) (rMn4 : Nat) (rMn5 : Nat) (rMn7 : Nat) (rMn8 : Nat) (rMn9 : Nat) (hDr : Nat → Nat) (rDr1 : Nat) (aDc nDc : Nat) (aDd nDd : Nat) (hFr : Nat → Nat) (hRo : Nat → Nat) (sz : Nat) (sMn : MS) (sDr : MS) (fDc : (Nat → Int32)) (fDd : (Nat → Int32)) (sFr : MS) (sRo : MS) (p1 : Int32) (p2 : Int32) (res : Int64 × Nat × MS × MS × (Nat → Int32) × (Nat → Int32) × MS) (hf : f_X10_odds F nDc nDd sRo p1 p2 sMn sDr fDc fDd sFr = some res) : Met l yX10_odds wz_X10_odds r_X10_odds (va_Pc [.ref (hMn 99), .int p1, .int p2] (PW D K (wMn K hMn rMn0 (hRo 99) rMn3 rMn4 rMn5 (hDr 99) rMn7 rMn8 rMn9 (hFr 99) sMn ++ wDr K hDr rDr1 aDc aDd sDr ++ wAI K aDc nDc fDc ++ wAI K aDd nDd fDd ++ wFr K hFr sFr ++ wRo K hRo sRo) sz)) (va_Ql (fun r u => r = res.1 ∧ u = res.2) (fun u t => BW D K (va_A (wMn K hMn rMn0 (hRo 99) rMn3 rMn4 rMn5 (hDr 99) rMn7 rMn8 rMn9 (hFr 99) sMn ++ wDr K hDr rDr1 aDc aDd sDr ++ wAI K aDc nDc fDc ++ wAI K aDd nDd fDd ++ wFr K hFr sFr ++ wRo K hRo sRo) sz) (match u.1 with | _ => wMn K hMn rMn0 (hRo 99) rMn3 rMn4 rMn5 (hDr 99) rMn7 rMn8 rMn9 (hFr 99) u.2.1 ++ wDr K hDr rDr1 aDc aDd u.2.2.1 ++ wAI K aDc nDc u.2.2.2.1 ++ wAI K aDd nDd u.2.2.2.2.1 ++ wFr K hFr u.2.2.2.2.2 ++ wRo K hRo sRo) t) (va_A (wMn K hMn rMn0 (hRo 99) rMn3 rMn4 rMn5 (hDr 99) rMn7 rMn8 rMn9 (hFr 99) sMn ++ wDr K hDr rDr1 aDc aDd sDr ++ wAI K aDc nDc fDc ++ wAI K aDd nDd fDd ++ wFr K hFr sFr ++ wRo K hRo sRo) sz)) 0 0 (va_A (wMn K hMn rMn0 (hRo 99) rMn3 rMn4 rMn5 (hDr 99) rMn7 rMn8 rMn9 (hFr 99) sMn ++ wDr K hDr rDr1 aDc aDd sDr ++ wAI K aDc nDc fDc ++ wAI K aDd nDd fDd ++ wFr K hFr sFr ++ wRo K hRo sRo) sz) := by
  refine Met.ofW (cc := cX10_odds) (maxL := 3) (ret := (some .long)) (by decide) rfl ?_
  intro p e s m args below meth c s₁ B hml hv
  obtain ⟨hargs, hsz, hP, hK, hD0⟩ := hv
  have hx := B.exec
  have hb := B.bytes
  have hr := B.returns
  have hts := atoms_spec (ws := wz_X10_odds) B.pre
  have htl : ∀ w ∈ wsL_law, w.before args s = true := fun w h => hts w (List.mem_cons_of_mem _ h)
  have hown : s.vm.findClass RX10 = some m.cls := findClass_of_methodNamed B.named
  have hlocks := B.notSynchronized
  subst hsz
  have hD := hD0.self (sz := s.heap.size)
  generalize hAe : va_A (wMn K hMn rMn0 (hRo 99) rMn3 rMn4 rMn5 (hDr 99) rMn7 rMn8 rMn9 (hFr 99) sMn ++ wDr K hDr rDr1 aDc aDd sDr ++ wAI K aDc nDc fDc ++ wAI K aDd nDd fDd ++ wFr K hFr sFr ++ wRo K hRo sRo) s.heap.size = A at hD ⊢
  have hA : ∀ q : Nat, s.heap.size ≤ q → A q := fun q h => by rw [← hAe]; exact Or.inr h
  have hS : va_S A s.heap s.heap [] := va_S.rf
  have iX10 : ∀ w ∈ wsX100, w ∈ wz_X10_odds := fun w h => List.mem_cons_of_mem _ (inlX10 w h)
  suffices hgo : ∀ Q : State → Prop, Q = MQ below (va_Ql (fun r u => r = res.1 ∧ u = res.2) (fun u t => BW D K A (match u.1 with | _ => wMn K hMn rMn0 (hRo 99) rMn3 rMn4 rMn5 (hDr 99) rMn7 rMn8 rMn9 (hFr 99) u.2.1 ++ wDr K hDr rDr1 aDc aDd u.2.2.1 ++ wAI K aDc nDc u.2.2.2.1 ++ wAI K aDd nDd u.2.2.2.2.1 ++ wFr K hFr u.2.2.2.2.2 ++ wRo K hRo sRo) t) A) args s 0 0 A → W p l e (headSpec wz_X10_odds r_X10_odds).room s m args below meth c s.heap [] 0 0 Q (entryFrame m args 3) from hgo _ rfl
  intro Q hQ
  have hen : entryFrame m args 3 = entryFrame m (([.ref (hMn 99), .int p1, .int p2] : List Value).toArray) 3 := by rw [hargs]
  have hl := lv_entry ([.ref (hMn 99), .int p1, .int p2]) (n := 3) (Nat.le_of_ble_eq_true rfl)
  rw [hen, lg_entry_eq]
  generalize (lg_sl ([.ref (hMn 99), .int p1, .int p2]) ++ List.replicate (3 - (lg_sl ([.ref (hMn 99), .int p1, .int p2])).length) Slot.unset).toArray = ls at hl ⊢
  have hl : lv_has ls 3 [(0, .ref (hMn 99)), (1, .int p1), (2, .int p2)] := hl
  unfold f_X10_odds at hf
  obtain ⟨H, hHe⟩ : ∃ z, z = s.heap := ⟨_, rfl⟩
  obtain ⟨locs, hLe⟩ : ∃ z : List Loc, z = [] := ⟨_, rfl⟩
  rw [← hLe]
  have hS : va_S A s.heap H locs := by rw [hHe, hLe]; exact hS
  have hP : va_P D vwCl (wMn K hMn rMn0 (hRo 99) rMn3 rMn4 rMn5 (hDr 99) rMn7 rMn8 rMn9 (hFr 99) sMn ++ wDr K hDr rDr1 aDc aDd sDr ++ wAI K aDc nDc fDc ++ wAI K aDd nDd fDd ++ wFr K hFr sFr ++ wRo K hRo sRo) H := by rw [hHe]; exact hP
  have hgo : W p l e (headSpec wz_X10_odds r_X10_odds).room s m args below meth c H locs 0 0 Q (F0 m 0 ls []) := by
    refine lv_aload_n hx hb dX10_odds_0 rfl (lv_at hl 0 rfl) ?_
    refine lv_iload_n hx hb dX10_odds_1 rfl (lv_at hl 1 rfl) ?_
    obtain ⟨o1, go1, hf⟩ := bd_s hf
    refine ro_Vi (As := [.int p1]) (rest := []) ⟨hx, hb, hml, hown, hts⟩ (c_X10_isRuleOfRoad l D K F hMn rMn0 rMn3 rMn4 rMn5 (hDr 99) rMn7 rMn8 rMn9 (hFr 99) hRo sMn sRo p1 o1 go1) (cwV 1 hts (gcV_X10_isRuleOfRoad (mB41 _ (List.mem_of_getElem? (i := 0) rfl))) rfl rfl rfl hdV_X10_isRuleOfRoad ⟨Nat.le_of_ble_eq_true rfl, Nat.le_of_ble_eq_true rfl⟩) hK hP hS (va_PL (cs := [wMn K hMn rMn0 (hRo 99) rMn3 rMn4 rMn5 (hDr 99) rMn7 rMn8 rMn9 (hFr 99) sMn, wDr K hDr rDr1 aDc aDd sDr, wAI K aDc nDc fDc, wAI K aDd nDd fDd, wFr K hFr sFr, wRo K hRo sRo]) (cc := [wMn K hMn rMn0 (hRo 99) rMn3 rMn4 rMn5 (hDr 99) rMn7 rMn8 rMn9 (hFr 99) sMn, wRo K hRo sRo]) hP (fl6 _ _ _ _ _ _) [0, 5] rfl (fl2 _ _)) (va_recv hK hP (ci := 9) (q0 := 0) rfl (rwl (rwl (rwl (rwl (rwl o_Mn)))))) rfl hl.1 rfl (Nat.le_of_ble_eq_true rfl) dX10_odds_2 ⟨Nat.zero_le _, Nat.zero_le _⟩ (fun H locs hP hS => ?_)
    refine lv_if_ne (tgt := 15) hx hb dX10_odds_5 (by decide) (fun c2 => ?_) (fun c2 => ?_)
    · have hf := it_f hf c2
      refine lv_aload_n hx hb dX10_odds_15 rfl (lv_at hl 0 rfl) ?_
      refine va_get (D := D) (ci := 9) (v := .ref (hDr 99)) (C := RX10) (T := TX10) (N := 14) hx hb hts iX10 hown hK hP 0 (rwl (rwl (rwl (rwl (rwl o_Mn))))) rfl 6 (by decide) (htl _ (mB2 _ (List.mem_of_getElem? (i := 7) rfl))) (fun _ h9 => h9) rfl dX10_odds_16 ?_
      refine lv_aload_n hx hb dX10_odds_19 rfl (lv_at hl 0 rfl) ?_
      refine va_get (D := D) (ci := 9) (v := .ref (hRo 99)) (C := RX10) (T := TX10) (N := 14) hx hb hts iX10 hown hK hP 0 (rwl (rwl (rwl (rwl (rwl o_Mn))))) rfl 2 (by decide) (htl _ (mB1 _ (List.mem_of_getElem? (i := 18) rfl))) (fun _ h9 => h9) rfl dX10_odds_20 ?_
      refine lv_iload_n hx hb dX10_odds_23 rfl (lv_at hl 1 rfl) ?_
      refine lv_aload_n hx hb dX10_odds_24 rfl (lv_at hl 0 rfl) ?_
      refine va_get (D := D) (ci := 9) (v := .ref (hFr 99)) (C := RX10) (T := TX10) (N := 14) hx hb hts iX10 hown hK hP 0 (rwl (rwl (rwl (rwl (rwl o_Mn))))) rfl 10 (by decide) (htl _ (mB2 _ (List.mem_of_getElem? (i := 23) rfl))) (fun _ h9 => h9) rfl dX10_odds_25 ?_
      obtain ⟨o3, go3, hf⟩ := bd_s hf
      refine rk_Vv (wn := wMn K hMn rMn0 (hRo 99) rMn3 rMn4 rMn5 (hDr 99) rMn7 rMn8 rMn9 (hFr 99) sMn ++ wDr K hDr rDr1 aDc aDd o3.1 ++ wAI K aDc nDc o3.2.1 ++ wAI K aDd nDd o3.2.2.1 ++ wFr K hFr o3.2.2.2 ++ wRo K hRo sRo) [wMn K hMn rMn0 (hRo 99) rMn3 rMn4 rMn5 (hDr 99) rMn7 rMn8 rMn9 (hFr 99) sMn, wDr K hDr rDr1 aDc aDd sDr, wAI K aDc nDc fDc, wAI K aDd nDd fDd, wFr K hFr sFr, wRo K hRo sRo] [wDr K hDr rDr1 aDc aDd sDr, wAI K aDc nDc fDc, wAI K aDd nDd fDd, wFr K hFr sFr, wRo K hRo sRo] [wDr K hDr rDr1 aDc aDd o3.1, wAI K aDc nDc o3.2.1, wAI K aDd nDd o3.2.2.1, wFr K hFr o3.2.2.2, wRo K hRo sRo] [wMn K hMn rMn0 (hRo 99) rMn3 rMn4 rMn5 (hDr 99) rMn7 rMn8 rMn9 (hFr 99) sMn, wDr K hDr rDr1 aDc aDd o3.1, wAI K aDc nDc o3.2.1, wAI K aDd nDd o3.2.2.1, wFr K hFr o3.2.2.2, wRo K hRo sRo] (As := [.ref (hRo 99), .int p1, .ref (hFr 99)]) (rest := []) ⟨hx, hb, hml, hown, hts⟩ (c_X1_reckonOdds l D K F hDr rDr1 aDc nDc aDd nDd hFr hRo H.size sDr fDc fDd sFr sRo p1 o3 go3) (cwV 3 hts (gcV_X1_reckonOdds (mB42 _ (List.mem_of_getElem? (i := 17) rfl))) rfl rfl rfl hdV_X1_reckonOdds ⟨Nat.le_of_ble_eq_true rfl, Nat.le_of_ble_eq_true rfl⟩) hK hP hD hS hA [1, 2, 3, 4, 5] (fl6 _ _ _ _ _ _) rfl (by decide) (fl5 _ _ _ _ _) (fl5 _ _ _ _ _) rfl rfl (fl6 _ _ _ _ _ _) (va_recv hK hP (ci := 1) (q0 := (1 + 0)) rfl (rwl (rwl (rwl (rwl (rwr ln_Mn o_Dr)))))) rfl hl.1 rfl (Nat.le_of_ble_eq_true rfl) dX10_odds_28 ⟨Nat.zero_le _, Nat.zero_le _⟩ (fun H locs hP hD hS => ?_)
      have hP : va_P D vwCl (wMn K hMn rMn0 (hRo 99) rMn3 rMn4 rMn5 (hDr 99) rMn7 rMn8 rMn9 (hFr 99) sMn ++ wDr K hDr rDr1 aDc aDd o3.1 ++ wAI K aDc nDc o3.2.1 ++ wAI K aDd nDd o3.2.2.1 ++ wFr K hFr o3.2.2.2 ++ wRo K hRo sRo) H := hP
      have hD : va_D A (wMn K hMn rMn0 (hRo 99) rMn3 rMn4 rMn5 (hDr 99) rMn7 rMn8 rMn9 (hFr 99) sMn ++ wDr K hDr rDr1 aDc aDd o3.1 ++ wAI K aDc nDc o3.2.1 ++ wAI K aDd nDd o3.2.2.1 ++ wFr K hFr o3.2.2.2 ++ wRo K hRo sRo) := hD
      refine lv_aload_n hx hb dX10_odds_31 rfl (lv_at hl 0 rfl) ?_
      refine lv_iload_n hx hb dX10_odds_32 rfl (lv_at hl 2 rfl) ?_
      obtain ⟨o4, go4, hf⟩ := bd_s hf
      refine rk_Vl (wn := wMn K hMn rMn0 (hRo 99) rMn3 rMn4 rMn5 (hDr 99) rMn7 rMn8 rMn9 (hFr 99) o4.2 ++ wDr K hDr rDr1 aDc aDd o3.1 ++ wAI K aDc nDc o3.2.1 ++ wAI K aDd nDd o3.2.2.1 ++ wFr K hFr o3.2.2.2 ++ wRo K hRo sRo) [wMn K hMn rMn0 (hRo 99) rMn3 rMn4 rMn5 (hDr 99) rMn7 rMn8 rMn9 (hFr 99) sMn, wDr K hDr rDr1 aDc aDd o3.1, wAI K aDc nDc o3.2.1, wAI K aDd nDd o3.2.2.1, wFr K hFr o3.2.2.2, wRo K hRo sRo] [wMn K hMn rMn0 (hRo 99) rMn3 rMn4 rMn5 (hDr 99) rMn7 rMn8 rMn9 (hFr 99) sMn, wFr K hFr o3.2.2.2] [wMn K hMn rMn0 (hRo 99) rMn3 rMn4 rMn5 (hDr 99) rMn7 rMn8 rMn9 (hFr 99) o4.2, wFr K hFr o3.2.2.2] [wMn K hMn rMn0 (hRo 99) rMn3 rMn4 rMn5 (hDr 99) rMn7 rMn8 rMn9 (hFr 99) o4.2, wDr K hDr rDr1 aDc aDd o3.1, wAI K aDc nDc o3.2.1, wAI K aDd nDd o3.2.2.1, wFr K hFr o3.2.2.2, wRo K hRo sRo] (As := [.int p2]) (rest := []) ⟨hx, hb, hml, hown, hts⟩ (c_X10_acceptFraction l D K F hMn rMn0 (hRo 99) rMn3 rMn4 rMn5 (hDr 99) rMn7 rMn8 rMn9 hFr H.size sMn o3.2.2.2 p2 o4 go4) (cwV 1 hts (gcV_X10_acceptFraction (mB44 _ (List.mem_of_getElem? (i := 5) rfl))) rfl rfl rfl hdV_X10_acceptFraction ⟨Nat.le_of_ble_eq_true rfl, Nat.le_of_ble_eq_true rfl⟩) hK hP hD hS hA [0, 4] (fl6 _ _ _ _ _ _) rfl (by decide) (fl2 _ _) (fl2 _ _) rfl rfl (fl6 _ _ _ _ _ _) (va_recv hK hP (ci := 9) (q0 := 0) rfl (rwl (rwl (rwl (rwl (rwl o_Mn)))))) rfl hl.1 rfl (Nat.le_of_ble_eq_true rfl) dX10_odds_33 ⟨Nat.zero_le _, Nat.zero_le _⟩ (fun H locs hP hD hS => ?_)
      have hP : va_P D vwCl (wMn K hMn rMn0 (hRo 99) rMn3 rMn4 rMn5 (hDr 99) rMn7 rMn8 rMn9 (hFr 99) o4.2 ++ wDr K hDr rDr1 aDc aDd o3.1 ++ wAI K aDc nDc o3.2.1 ++ wAI K aDd nDd o3.2.2.1 ++ wFr K hFr o3.2.2.2 ++ wRo K hRo sRo) H := hP
      have hD : va_D A (wMn K hMn rMn0 (hRo 99) rMn3 rMn4 rMn5 (hDr 99) rMn7 rMn8 rMn9 (hFr 99) o4.2 ++ wDr K hDr rDr1 aDc aDd o3.1 ++ wAI K aDc nDc o3.2.1 ++ wAI K aDd nDd o3.2.2.1 ++ wFr K hFr o3.2.2.2 ++ wRo K hRo sRo) := hD
      have e9 := Option.some.inj hf
      rw [hQ]
      exact W.lret (v := o4.1) hx hb hr (fun t ht hW => ⟨⟨o4.1, (0, o4.2, o3.1, o3.2.1, o3.2.2.1, o3.2.2.2), rfl, ⟨pr1 e9, pr2 e9⟩, ⟨by rw [ht]; exact hP, va_K.moved hW.alike hK, hD⟩⟩, hS.F ht⟩) hS.2.2 dX10_odds_36
    · have hf := it_t hf c2
      refine lv_aload_n hx hb dX10_odds_8 rfl (lv_at hl 0 rfl) ?_
      refine lv_iconst (v := (1 : Int32)) hx hb dX10_odds_9 (by decide) ?_
      obtain ⟨o5, go5, hf⟩ := bd_s hf
      refine rk_Vi (wn := wMn K hMn rMn0 (hRo 99) rMn3 rMn4 rMn5 (hDr 99) rMn7 rMn8 rMn9 (hFr 99) o5.2 ++ wDr K hDr rDr1 aDc aDd sDr ++ wAI K aDc nDc fDc ++ wAI K aDd nDd fDd ++ wFr K hFr sFr ++ wRo K hRo sRo) [wMn K hMn rMn0 (hRo 99) rMn3 rMn4 rMn5 (hDr 99) rMn7 rMn8 rMn9 (hFr 99) sMn, wDr K hDr rDr1 aDc aDd sDr, wAI K aDc nDc fDc, wAI K aDd nDd fDd, wFr K hFr sFr, wRo K hRo sRo] [wMn K hMn rMn0 (hRo 99) rMn3 rMn4 rMn5 (hDr 99) rMn7 rMn8 rMn9 (hFr 99) sMn] [wMn K hMn rMn0 (hRo 99) rMn3 rMn4 rMn5 (hDr 99) rMn7 rMn8 rMn9 (hFr 99) o5.2] [wMn K hMn rMn0 (hRo 99) rMn3 rMn4 rMn5 (hDr 99) rMn7 rMn8 rMn9 (hFr 99) o5.2, wDr K hDr rDr1 aDc aDd sDr, wAI K aDc nDc fDc, wAI K aDd nDd fDd, wFr K hFr sFr, wRo K hRo sRo] (As := [.int (1 : Int32)]) (rest := []) ⟨hx, hb, hml, hown, hts⟩ (c_X10_refuse l D K F hMn rMn0 (hRo 99) rMn3 rMn4 rMn5 (hDr 99) rMn7 rMn8 rMn9 (hFr 99) H.size sMn (1 : Int32) o5 go5) (cwV 1 hts (gcV_X10_refuse (mB7 _ (List.mem_of_getElem? (i := 18) rfl))) rfl rfl rfl hdV_X10_refuse ⟨Nat.le_of_ble_eq_true rfl, Nat.le_of_ble_eq_true rfl⟩) hK hP hD hS hA [0] (fl6 _ _ _ _ _ _) rfl (by decide) (fl1 _) (fl1 _) rfl rfl (fl6 _ _ _ _ _ _) (va_recv hK hP (ci := 9) (q0 := 0) rfl (rwl (rwl (rwl (rwl (rwl o_Mn)))))) rfl hl.1 rfl (Nat.le_of_ble_eq_true rfl) dX10_odds_10 ⟨Nat.zero_le _, Nat.zero_le _⟩ (fun H locs hP hD hS => ?_)
      have hP : va_P D vwCl (wMn K hMn rMn0 (hRo 99) rMn3 rMn4 rMn5 (hDr 99) rMn7 rMn8 rMn9 (hFr 99) o5.2 ++ wDr K hDr rDr1 aDc aDd sDr ++ wAI K aDc nDc fDc ++ wAI K aDd nDd fDd ++ wFr K hFr sFr ++ wRo K hRo sRo) H := hP
      have hD : va_D A (wMn K hMn rMn0 (hRo 99) rMn3 rMn4 rMn5 (hDr 99) rMn7 rMn8 rMn9 (hFr 99) o5.2 ++ wDr K hDr rDr1 aDc aDd sDr ++ wAI K aDc nDc fDc ++ wAI K aDd nDd fDd ++ wFr K hFr sFr ++ wRo K hRo sRo) := hD
      refine lv_i2l (v := o5.1.toInt64) hx hb dX10_odds_13 rfl ?_
      have e9 := Option.some.inj hf
      rw [hQ]
      exact W.lret (v := o5.1.toInt64) hx hb hr (fun t ht hW => ⟨⟨o5.1.toInt64, (0, o5.2, sDr, fDc, fDd, sFr), rfl, ⟨pr1 e9, pr2 e9⟩, ⟨by rw [ht]; exact hP, va_K.moved hW.alike hK, hD⟩⟩, hS.F ht⟩) hS.2.2 dX10_odds_14
  rw [hHe] at hgo
  exact hgo

theorem gcV_X1_reckonMean {T0 : Cond} {own : String} {i : Nat} (h : Cond.methodLink own i yX1_reckonMean ∈ wsL_law) : GoodIn (T0 :: wsL_law) (wsV own i RX1 yX1_reckonMean wz_X1_reckonMean) := gV h (mB46 _ (List.mem_of_getElem? (i := 12) rfl)) (mB46 _ (List.mem_of_getElem? (i := 13) rfl)) (mB2 _ (List.mem_of_getElem? (i := 6) rfl)) (mB46 _ (List.mem_of_getElem? (i := 14) rfl))
theorem hdV_X1_reckonMean : yX1_reckonMean.cls = RX1 ∧ yX1_reckonMean.cls ≠ "java/lang/invoke/MethodHandle" ∧ yX1_reckonMean.cls ≠ "java/lang/invoke/VarHandle" ∧ (parseMethodDescriptor yX1_reckonMean.desc).map (fun d => d.parameters.length) = some 3 := by decide +kernel
def wz_X10_mean : List Cond := .code yX10_mean cX10_mean 3 (some .long) :: wsL_law
abbrev r_X10_mean : Room := { frames := 7, cells := 0, slots := 0, locals := 181 }
set_option maxHeartbeats 4000000 in
set_option maxRecDepth 100000 in
theorem c_X10_mean (l : Launch) (D : va_G) (K : Nat → ClassId) (F : Nat) (hMn : Nat → Nat) (rMn0 : Nat) (rMn3 : Nat) (rMn4 : Nat) (rMn5 : Nat) (rMn7 : Nat) (rMn8 : Nat) (rMn9 : Nat) (hDr : Nat → Nat) (rDr1 : Nat) (aDc nDc : Nat) (aDd nDd : Nat) (hFr : Nat → Nat) (hRo : Nat → Nat) (sz : Nat) (sMn : MS) (sDr : MS) (fDc : (Nat → Int32)) (fDd : (Nat → Int32)) (sFr : MS) (sRo : MS) (p1 : Int32) (p2 : Int32) (res : Int64 × Nat × MS × MS × (Nat → Int32) × (Nat → Int32) × MS) (hf : f_X10_mean F nDc nDd sRo p1 p2 sMn sDr fDc fDd sFr = some res) : Met l yX10_mean wz_X10_mean r_X10_mean (va_Pc [.ref (hMn 99), .int p1, .int p2] (PW D K (wMn K hMn rMn0 (hRo 99) rMn3 rMn4 rMn5 (hDr 99) rMn7 rMn8 rMn9 (hFr 99) sMn ++ wDr K hDr rDr1 aDc aDd sDr ++ wAI K aDc nDc fDc ++ wAI K aDd nDd fDd ++ wFr K hFr sFr ++ wRo K hRo sRo) sz)) (va_Ql (fun r u => r = res.1 ∧ u = res.2) (fun u t => BW D K (va_A (wMn K hMn rMn0 (hRo 99) rMn3 rMn4 rMn5 (hDr 99) rMn7 rMn8 rMn9 (hFr 99) sMn ++ wDr K hDr rDr1 aDc aDd sDr ++ wAI K aDc nDc fDc ++ wAI K aDd nDd fDd ++ wFr K hFr sFr ++ wRo K hRo sRo) sz) (match u.1 with | _ => wMn K hMn rMn0 (hRo 99) rMn3 rMn4 rMn5 (hDr 99) rMn7 rMn8 rMn9 (hFr 99) u.2.1 ++ wDr K hDr rDr1 aDc aDd u.2.2.1 ++ wAI K aDc nDc u.2.2.2.1 ++ wAI K aDd nDd u.2.2.2.2.1 ++ wFr K hFr u.2.2.2.2.2 ++ wRo K hRo sRo) t) (va_A (wMn K hMn rMn0 (hRo 99) rMn3 rMn4 rMn5 (hDr 99) rMn7 rMn8 rMn9 (hFr 99) sMn ++ wDr K hDr rDr1 aDc aDd sDr ++ wAI K aDc nDc fDc ++ wAI K aDd nDd fDd ++ wFr K hFr sFr ++ wRo K hRo sRo) sz)) 0 0 (va_A (wMn K hMn rMn0 (hRo 99) rMn3 rMn4 rMn5 (hDr 99) rMn7 rMn8 rMn9 (hFr 99) sMn ++ wDr K hDr rDr1 aDc aDd sDr ++ wAI K aDc nDc fDc ++ wAI K aDd nDd fDd ++ wFr K hFr sFr ++ wRo K hRo sRo) sz) := by
  refine Met.ofW (cc := cX10_mean) (maxL := 3) (ret := (some .long)) (by decide) rfl ?_
  intro p e s m args below meth c s₁ B hml hv
  obtain ⟨hargs, hsz, hP, hK, hD0⟩ := hv
  have hx := B.exec
  have hb := B.bytes
  have hr := B.returns
  have hts := atoms_spec (ws := wz_X10_mean) B.pre
  have htl : ∀ w ∈ wsL_law, w.before args s = true := fun w h => hts w (List.mem_cons_of_mem _ h)
  have hown : s.vm.findClass RX10 = some m.cls := findClass_of_methodNamed B.named
  have hlocks := B.notSynchronized
  subst hsz
  have hD := hD0.self (sz := s.heap.size)
  generalize hAe : va_A (wMn K hMn rMn0 (hRo 99) rMn3 rMn4 rMn5 (hDr 99) rMn7 rMn8 rMn9 (hFr 99) sMn ++ wDr K hDr rDr1 aDc aDd sDr ++ wAI K aDc nDc fDc ++ wAI K aDd nDd fDd ++ wFr K hFr sFr ++ wRo K hRo sRo) s.heap.size = A at hD ⊢
  have hA : ∀ q : Nat, s.heap.size ≤ q → A q := fun q h => by rw [← hAe]; exact Or.inr h
  have hS : va_S A s.heap s.heap [] := va_S.rf
  have iX10 : ∀ w ∈ wsX100, w ∈ wz_X10_mean := fun w h => List.mem_cons_of_mem _ (inlX10 w h)
  suffices hgo : ∀ Q : State → Prop, Q = MQ below (va_Ql (fun r u => r = res.1 ∧ u = res.2) (fun u t => BW D K A (match u.1 with | _ => wMn K hMn rMn0 (hRo 99) rMn3 rMn4 rMn5 (hDr 99) rMn7 rMn8 rMn9 (hFr 99) u.2.1 ++ wDr K hDr rDr1 aDc aDd u.2.2.1 ++ wAI K aDc nDc u.2.2.2.1 ++ wAI K aDd nDd u.2.2.2.2.1 ++ wFr K hFr u.2.2.2.2.2 ++ wRo K hRo sRo) t) A) args s 0 0 A → W p l e (headSpec wz_X10_mean r_X10_mean).room s m args below meth c s.heap [] 0 0 Q (entryFrame m args 3) from hgo _ rfl
  intro Q hQ
  have hen : entryFrame m args 3 = entryFrame m (([.ref (hMn 99), .int p1, .int p2] : List Value).toArray) 3 := by rw [hargs]
  have hl := lv_entry ([.ref (hMn 99), .int p1, .int p2]) (n := 3) (Nat.le_of_ble_eq_true rfl)
  rw [hen, lg_entry_eq]
  generalize (lg_sl ([.ref (hMn 99), .int p1, .int p2]) ++ List.replicate (3 - (lg_sl ([.ref (hMn 99), .int p1, .int p2])).length) Slot.unset).toArray = ls at hl ⊢
  have hl : lv_has ls 3 [(0, .ref (hMn 99)), (1, .int p1), (2, .int p2)] := hl
  unfold f_X10_mean at hf
  obtain ⟨H, hHe⟩ : ∃ z, z = s.heap := ⟨_, rfl⟩
  obtain ⟨locs, hLe⟩ : ∃ z : List Loc, z = [] := ⟨_, rfl⟩
  rw [← hLe]
  have hS : va_S A s.heap H locs := by rw [hHe, hLe]; exact hS
  have hP : va_P D vwCl (wMn K hMn rMn0 (hRo 99) rMn3 rMn4 rMn5 (hDr 99) rMn7 rMn8 rMn9 (hFr 99) sMn ++ wDr K hDr rDr1 aDc aDd sDr ++ wAI K aDc nDc fDc ++ wAI K aDd nDd fDd ++ wFr K hFr sFr ++ wRo K hRo sRo) H := by rw [hHe]; exact hP
  have hgo : W p l e (headSpec wz_X10_mean r_X10_mean).room s m args below meth c H locs 0 0 Q (F0 m 0 ls []) := by
    refine lv_aload_n hx hb dX10_mean_0 rfl (lv_at hl 0 rfl) ?_
    refine lv_iload_n hx hb dX10_mean_1 rfl (lv_at hl 1 rfl) ?_
    obtain ⟨o1, go1, hf⟩ := bd_s hf
    refine ro_Vi (As := [.int p1]) (rest := []) ⟨hx, hb, hml, hown, hts⟩ (c_X10_isRuleOfRoad l D K F hMn rMn0 rMn3 rMn4 rMn5 (hDr 99) rMn7 rMn8 rMn9 (hFr 99) hRo sMn sRo p1 o1 go1) (cwV 1 hts (gcV_X10_isRuleOfRoad (mB41 _ (List.mem_of_getElem? (i := 0) rfl))) rfl rfl rfl hdV_X10_isRuleOfRoad ⟨Nat.le_of_ble_eq_true rfl, Nat.le_of_ble_eq_true rfl⟩) hK hP hS (va_PL (cs := [wMn K hMn rMn0 (hRo 99) rMn3 rMn4 rMn5 (hDr 99) rMn7 rMn8 rMn9 (hFr 99) sMn, wDr K hDr rDr1 aDc aDd sDr, wAI K aDc nDc fDc, wAI K aDd nDd fDd, wFr K hFr sFr, wRo K hRo sRo]) (cc := [wMn K hMn rMn0 (hRo 99) rMn3 rMn4 rMn5 (hDr 99) rMn7 rMn8 rMn9 (hFr 99) sMn, wRo K hRo sRo]) hP (fl6 _ _ _ _ _ _) [0, 5] rfl (fl2 _ _)) (va_recv hK hP (ci := 9) (q0 := 0) rfl (rwl (rwl (rwl (rwl (rwl o_Mn)))))) rfl hl.1 rfl (Nat.le_of_ble_eq_true rfl) dX10_mean_2 ⟨Nat.zero_le _, Nat.zero_le _⟩ (fun H locs hP hS => ?_)
    refine lv_if_ne (tgt := 15) hx hb dX10_mean_5 (by decide) (fun c2 => ?_) (fun c2 => ?_)
    · have hf := it_f hf c2
      refine lv_aload_n hx hb dX10_mean_15 rfl (lv_at hl 0 rfl) ?_
      refine va_get (D := D) (ci := 9) (v := .ref (hDr 99)) (C := RX10) (T := TX10) (N := 14) hx hb hts iX10 hown hK hP 0 (rwl (rwl (rwl (rwl (rwl o_Mn))))) rfl 6 (by decide) (htl _ (mB2 _ (List.mem_of_getElem? (i := 7) rfl))) (fun _ h9 => h9) rfl dX10_mean_16 ?_
      refine lv_aload_n hx hb dX10_mean_19 rfl (lv_at hl 0 rfl) ?_
      refine va_get (D := D) (ci := 9) (v := .ref (hRo 99)) (C := RX10) (T := TX10) (N := 14) hx hb hts iX10 hown hK hP 0 (rwl (rwl (rwl (rwl (rwl o_Mn))))) rfl 2 (by decide) (htl _ (mB1 _ (List.mem_of_getElem? (i := 18) rfl))) (fun _ h9 => h9) rfl dX10_mean_20 ?_
      refine lv_iload_n hx hb dX10_mean_23 rfl (lv_at hl 1 rfl) ?_
      refine lv_aload_n hx hb dX10_mean_24 rfl (lv_at hl 0 rfl) ?_
      refine va_get (D := D) (ci := 9) (v := .ref (hFr 99)) (C := RX10) (T := TX10) (N := 14) hx hb hts iX10 hown hK hP 0 (rwl (rwl (rwl (rwl (rwl o_Mn))))) rfl 10 (by decide) (htl _ (mB2 _ (List.mem_of_getElem? (i := 23) rfl))) (fun _ h9 => h9) rfl dX10_mean_25 ?_
      obtain ⟨o3, go3, hf⟩ := bd_s hf
      refine rk_Vv (wn := wMn K hMn rMn0 (hRo 99) rMn3 rMn4 rMn5 (hDr 99) rMn7 rMn8 rMn9 (hFr 99) sMn ++ wDr K hDr rDr1 aDc aDd o3.1 ++ wAI K aDc nDc o3.2.1 ++ wAI K aDd nDd o3.2.2.1 ++ wFr K hFr o3.2.2.2 ++ wRo K hRo sRo) [wMn K hMn rMn0 (hRo 99) rMn3 rMn4 rMn5 (hDr 99) rMn7 rMn8 rMn9 (hFr 99) sMn, wDr K hDr rDr1 aDc aDd sDr, wAI K aDc nDc fDc, wAI K aDd nDd fDd, wFr K hFr sFr, wRo K hRo sRo] [wDr K hDr rDr1 aDc aDd sDr, wAI K aDc nDc fDc, wAI K aDd nDd fDd, wFr K hFr sFr, wRo K hRo sRo] [wDr K hDr rDr1 aDc aDd o3.1, wAI K aDc nDc o3.2.1, wAI K aDd nDd o3.2.2.1, wFr K hFr o3.2.2.2, wRo K hRo sRo] [wMn K hMn rMn0 (hRo 99) rMn3 rMn4 rMn5 (hDr 99) rMn7 rMn8 rMn9 (hFr 99) sMn, wDr K hDr rDr1 aDc aDd o3.1, wAI K aDc nDc o3.2.1, wAI K aDd nDd o3.2.2.1, wFr K hFr o3.2.2.2, wRo K hRo sRo] (As := [.ref (hRo 99), .int p1, .ref (hFr 99)]) (rest := []) ⟨hx, hb, hml, hown, hts⟩ (c_X1_reckonMean l D K F hDr rDr1 aDc nDc aDd nDd hFr hRo H.size sDr fDc fDd sFr sRo p1 o3 go3) (cwV 3 hts (gcV_X1_reckonMean (mB46 _ (List.mem_of_getElem? (i := 11) rfl))) rfl rfl rfl hdV_X1_reckonMean ⟨Nat.le_of_ble_eq_true rfl, Nat.le_of_ble_eq_true rfl⟩) hK hP hD hS hA [1, 2, 3, 4, 5] (fl6 _ _ _ _ _ _) rfl (by decide) (fl5 _ _ _ _ _) (fl5 _ _ _ _ _) rfl rfl (fl6 _ _ _ _ _ _) (va_recv hK hP (ci := 1) (q0 := (1 + 0)) rfl (rwl (rwl (rwl (rwl (rwr ln_Mn o_Dr)))))) rfl hl.1 rfl (Nat.le_of_ble_eq_true rfl) dX10_mean_28 ⟨Nat.zero_le _, Nat.zero_le _⟩ (fun H locs hP hD hS => ?_)
      have hP : va_P D vwCl (wMn K hMn rMn0 (hRo 99) rMn3 rMn4 rMn5 (hDr 99) rMn7 rMn8 rMn9 (hFr 99) sMn ++ wDr K hDr rDr1 aDc aDd o3.1 ++ wAI K aDc nDc o3.2.1 ++ wAI K aDd nDd o3.2.2.1 ++ wFr K hFr o3.2.2.2 ++ wRo K hRo sRo) H := hP
      have hD : va_D A (wMn K hMn rMn0 (hRo 99) rMn3 rMn4 rMn5 (hDr 99) rMn7 rMn8 rMn9 (hFr 99) sMn ++ wDr K hDr rDr1 aDc aDd o3.1 ++ wAI K aDc nDc o3.2.1 ++ wAI K aDd nDd o3.2.2.1 ++ wFr K hFr o3.2.2.2 ++ wRo K hRo sRo) := hD
      refine lv_aload_n hx hb dX10_mean_31 rfl (lv_at hl 0 rfl) ?_
      refine lv_iload_n hx hb dX10_mean_32 rfl (lv_at hl 2 rfl) ?_
      obtain ⟨o4, go4, hf⟩ := bd_s hf
      refine rk_Vl (wn := wMn K hMn rMn0 (hRo 99) rMn3 rMn4 rMn5 (hDr 99) rMn7 rMn8 rMn9 (hFr 99) o4.2 ++ wDr K hDr rDr1 aDc aDd o3.1 ++ wAI K aDc nDc o3.2.1 ++ wAI K aDd nDd o3.2.2.1 ++ wFr K hFr o3.2.2.2 ++ wRo K hRo sRo) [wMn K hMn rMn0 (hRo 99) rMn3 rMn4 rMn5 (hDr 99) rMn7 rMn8 rMn9 (hFr 99) sMn, wDr K hDr rDr1 aDc aDd o3.1, wAI K aDc nDc o3.2.1, wAI K aDd nDd o3.2.2.1, wFr K hFr o3.2.2.2, wRo K hRo sRo] [wMn K hMn rMn0 (hRo 99) rMn3 rMn4 rMn5 (hDr 99) rMn7 rMn8 rMn9 (hFr 99) sMn, wFr K hFr o3.2.2.2] [wMn K hMn rMn0 (hRo 99) rMn3 rMn4 rMn5 (hDr 99) rMn7 rMn8 rMn9 (hFr 99) o4.2, wFr K hFr o3.2.2.2] [wMn K hMn rMn0 (hRo 99) rMn3 rMn4 rMn5 (hDr 99) rMn7 rMn8 rMn9 (hFr 99) o4.2, wDr K hDr rDr1 aDc aDd o3.1, wAI K aDc nDc o3.2.1, wAI K aDd nDd o3.2.2.1, wFr K hFr o3.2.2.2, wRo K hRo sRo] (As := [.int p2]) (rest := []) ⟨hx, hb, hml, hown, hts⟩ (c_X10_acceptFraction l D K F hMn rMn0 (hRo 99) rMn3 rMn4 rMn5 (hDr 99) rMn7 rMn8 rMn9 hFr H.size sMn o3.2.2.2 p2 o4 go4) (cwV 1 hts (gcV_X10_acceptFraction (mB44 _ (List.mem_of_getElem? (i := 5) rfl))) rfl rfl rfl hdV_X10_acceptFraction ⟨Nat.le_of_ble_eq_true rfl, Nat.le_of_ble_eq_true rfl⟩) hK hP hD hS hA [0, 4] (fl6 _ _ _ _ _ _) rfl (by decide) (fl2 _ _) (fl2 _ _) rfl rfl (fl6 _ _ _ _ _ _) (va_recv hK hP (ci := 9) (q0 := 0) rfl (rwl (rwl (rwl (rwl (rwl o_Mn)))))) rfl hl.1 rfl (Nat.le_of_ble_eq_true rfl) dX10_mean_33 ⟨Nat.zero_le _, Nat.zero_le _⟩ (fun H locs hP hD hS => ?_)
      have hP : va_P D vwCl (wMn K hMn rMn0 (hRo 99) rMn3 rMn4 rMn5 (hDr 99) rMn7 rMn8 rMn9 (hFr 99) o4.2 ++ wDr K hDr rDr1 aDc aDd o3.1 ++ wAI K aDc nDc o3.2.1 ++ wAI K aDd nDd o3.2.2.1 ++ wFr K hFr o3.2.2.2 ++ wRo K hRo sRo) H := hP
      have hD : va_D A (wMn K hMn rMn0 (hRo 99) rMn3 rMn4 rMn5 (hDr 99) rMn7 rMn8 rMn9 (hFr 99) o4.2 ++ wDr K hDr rDr1 aDc aDd o3.1 ++ wAI K aDc nDc o3.2.1 ++ wAI K aDd nDd o3.2.2.1 ++ wFr K hFr o3.2.2.2 ++ wRo K hRo sRo) := hD
      have e9 := Option.some.inj hf
      rw [hQ]
      exact W.lret (v := o4.1) hx hb hr (fun t ht hW => ⟨⟨o4.1, (0, o4.2, o3.1, o3.2.1, o3.2.2.1, o3.2.2.2), rfl, ⟨pr1 e9, pr2 e9⟩, ⟨by rw [ht]; exact hP, va_K.moved hW.alike hK, hD⟩⟩, hS.F ht⟩) hS.2.2 dX10_mean_36
    · have hf := it_t hf c2
      refine lv_aload_n hx hb dX10_mean_8 rfl (lv_at hl 0 rfl) ?_
      refine lv_iconst (v := (1 : Int32)) hx hb dX10_mean_9 (by decide) ?_
      obtain ⟨o5, go5, hf⟩ := bd_s hf
      refine rk_Vi (wn := wMn K hMn rMn0 (hRo 99) rMn3 rMn4 rMn5 (hDr 99) rMn7 rMn8 rMn9 (hFr 99) o5.2 ++ wDr K hDr rDr1 aDc aDd sDr ++ wAI K aDc nDc fDc ++ wAI K aDd nDd fDd ++ wFr K hFr sFr ++ wRo K hRo sRo) [wMn K hMn rMn0 (hRo 99) rMn3 rMn4 rMn5 (hDr 99) rMn7 rMn8 rMn9 (hFr 99) sMn, wDr K hDr rDr1 aDc aDd sDr, wAI K aDc nDc fDc, wAI K aDd nDd fDd, wFr K hFr sFr, wRo K hRo sRo] [wMn K hMn rMn0 (hRo 99) rMn3 rMn4 rMn5 (hDr 99) rMn7 rMn8 rMn9 (hFr 99) sMn] [wMn K hMn rMn0 (hRo 99) rMn3 rMn4 rMn5 (hDr 99) rMn7 rMn8 rMn9 (hFr 99) o5.2] [wMn K hMn rMn0 (hRo 99) rMn3 rMn4 rMn5 (hDr 99) rMn7 rMn8 rMn9 (hFr 99) o5.2, wDr K hDr rDr1 aDc aDd sDr, wAI K aDc nDc fDc, wAI K aDd nDd fDd, wFr K hFr sFr, wRo K hRo sRo] (As := [.int (1 : Int32)]) (rest := []) ⟨hx, hb, hml, hown, hts⟩ (c_X10_refuse l D K F hMn rMn0 (hRo 99) rMn3 rMn4 rMn5 (hDr 99) rMn7 rMn8 rMn9 (hFr 99) H.size sMn (1 : Int32) o5 go5) (cwV 1 hts (gcV_X10_refuse (mB7 _ (List.mem_of_getElem? (i := 18) rfl))) rfl rfl rfl hdV_X10_refuse ⟨Nat.le_of_ble_eq_true rfl, Nat.le_of_ble_eq_true rfl⟩) hK hP hD hS hA [0] (fl6 _ _ _ _ _ _) rfl (by decide) (fl1 _) (fl1 _) rfl rfl (fl6 _ _ _ _ _ _) (va_recv hK hP (ci := 9) (q0 := 0) rfl (rwl (rwl (rwl (rwl (rwl o_Mn)))))) rfl hl.1 rfl (Nat.le_of_ble_eq_true rfl) dX10_mean_10 ⟨Nat.zero_le _, Nat.zero_le _⟩ (fun H locs hP hD hS => ?_)
      have hP : va_P D vwCl (wMn K hMn rMn0 (hRo 99) rMn3 rMn4 rMn5 (hDr 99) rMn7 rMn8 rMn9 (hFr 99) o5.2 ++ wDr K hDr rDr1 aDc aDd sDr ++ wAI K aDc nDc fDc ++ wAI K aDd nDd fDd ++ wFr K hFr sFr ++ wRo K hRo sRo) H := hP
      have hD : va_D A (wMn K hMn rMn0 (hRo 99) rMn3 rMn4 rMn5 (hDr 99) rMn7 rMn8 rMn9 (hFr 99) o5.2 ++ wDr K hDr rDr1 aDc aDd sDr ++ wAI K aDc nDc fDc ++ wAI K aDd nDd fDd ++ wFr K hFr sFr ++ wRo K hRo sRo) := hD
      refine lv_i2l (v := o5.1.toInt64) hx hb dX10_mean_13 rfl ?_
      have e9 := Option.some.inj hf
      rw [hQ]
      exact W.lret (v := o5.1.toInt64) hx hb hr (fun t ht hW => ⟨⟨o5.1.toInt64, (0, o5.2, sDr, fDc, fDd, sFr), rfl, ⟨pr1 e9, pr2 e9⟩, ⟨by rw [ht]; exact hP, va_K.moved hW.alike hK, hD⟩⟩, hS.F ht⟩) hS.2.2 dX10_mean_14
  rw [hHe] at hgo
  exact hgo

theorem gcV_X1_ruleOfLeastMean {T0 : Cond} {own : String} {i : Nat} (h : Cond.methodLink own i yX1_ruleOfLeastMean ∈ wsL_law) : GoodIn (T0 :: wsL_law) (wsV own i RX1 yX1_ruleOfLeastMean wz_X1_ruleOfLeastMean) := gV h (mB47 _ (List.mem_of_getElem? (i := 0) rfl)) (mB47 _ (List.mem_of_getElem? (i := 1) rfl)) (mB2 _ (List.mem_of_getElem? (i := 6) rfl)) (mB47 _ (List.mem_of_getElem? (i := 2) rfl))
theorem hdV_X1_ruleOfLeastMean : yX1_ruleOfLeastMean.cls = RX1 ∧ yX1_ruleOfLeastMean.cls ≠ "java/lang/invoke/MethodHandle" ∧ yX1_ruleOfLeastMean.cls ≠ "java/lang/invoke/VarHandle" ∧ (parseMethodDescriptor yX1_ruleOfLeastMean.desc).map (fun d => d.parameters.length) = some 1 := by decide +kernel
def wz_X10_bestRule : List Cond := .code yX10_bestRule cX10_bestRule 1 (some .int) :: wsL_law
abbrev r_X10_bestRule : Room := { frames := 7, cells := 0, slots := 0, locals := 183 }
set_option maxHeartbeats 4000000 in
set_option maxRecDepth 100000 in
theorem c_X10_bestRule (l : Launch) (D : va_G) (K : Nat → ClassId) (F : Nat) (hMn : Nat → Nat) (rMn0 : Nat) (rMn3 : Nat) (rMn4 : Nat) (rMn5 : Nat) (rMn7 : Nat) (rMn8 : Nat) (rMn9 : Nat) (rMn10 : Nat) (hDr : Nat → Nat) (rDr1 : Nat) (aDc nDc : Nat) (aDd nDd : Nat) (hRo : Nat → Nat) (sz : Nat) (sMn : MS) (sDr : MS) (fDc : (Nat → Int32)) (fDd : (Nat → Int32)) (sRo : MS) (res : Int32 × Nat × MS × MS × (Nat → Int32) × (Nat → Int32)) (hf : f_X10_bestRule F nDc nDd sRo sMn sDr fDc fDd = some res) : Met l yX10_bestRule wz_X10_bestRule r_X10_bestRule (va_Pc [.ref (hMn 99)] (PW D K (wMn K hMn rMn0 (hRo 99) rMn3 rMn4 rMn5 (hDr 99) rMn7 rMn8 rMn9 rMn10 sMn ++ wDr K hDr rDr1 aDc aDd sDr ++ wAI K aDc nDc fDc ++ wAI K aDd nDd fDd ++ wRo K hRo sRo) sz)) (va_Qi (fun r u => r = res.1 ∧ u = res.2) (fun u t => BW D K (va_A (wMn K hMn rMn0 (hRo 99) rMn3 rMn4 rMn5 (hDr 99) rMn7 rMn8 rMn9 rMn10 sMn ++ wDr K hDr rDr1 aDc aDd sDr ++ wAI K aDc nDc fDc ++ wAI K aDd nDd fDd ++ wRo K hRo sRo) sz) (match u.1 with | _ => wMn K hMn rMn0 (hRo 99) rMn3 rMn4 rMn5 (hDr 99) rMn7 rMn8 rMn9 rMn10 u.2.1 ++ wDr K hDr rDr1 aDc aDd u.2.2.1 ++ wAI K aDc nDc u.2.2.2.1 ++ wAI K aDd nDd u.2.2.2.2 ++ wRo K hRo sRo) t) (va_A (wMn K hMn rMn0 (hRo 99) rMn3 rMn4 rMn5 (hDr 99) rMn7 rMn8 rMn9 rMn10 sMn ++ wDr K hDr rDr1 aDc aDd sDr ++ wAI K aDc nDc fDc ++ wAI K aDd nDd fDd ++ wRo K hRo sRo) sz)) 0 0 (va_A (wMn K hMn rMn0 (hRo 99) rMn3 rMn4 rMn5 (hDr 99) rMn7 rMn8 rMn9 rMn10 sMn ++ wDr K hDr rDr1 aDc aDd sDr ++ wAI K aDc nDc fDc ++ wAI K aDd nDd fDd ++ wRo K hRo sRo) sz) := by
  refine Met.ofW (cc := cX10_bestRule) (maxL := 1) (ret := (some .int)) (by decide) rfl ?_
  intro p e s m args below meth c s₁ B hml hv
  obtain ⟨hargs, hsz, hP, hK, hD0⟩ := hv
  have hx := B.exec
  have hb := B.bytes
  have hr := B.returns
  have hts := atoms_spec (ws := wz_X10_bestRule) B.pre
  have htl : ∀ w ∈ wsL_law, w.before args s = true := fun w h => hts w (List.mem_cons_of_mem _ h)
  have hown : s.vm.findClass RX10 = some m.cls := findClass_of_methodNamed B.named
  have hlocks := B.notSynchronized
  subst hsz
  have hD := hD0.self (sz := s.heap.size)
  generalize hAe : va_A (wMn K hMn rMn0 (hRo 99) rMn3 rMn4 rMn5 (hDr 99) rMn7 rMn8 rMn9 rMn10 sMn ++ wDr K hDr rDr1 aDc aDd sDr ++ wAI K aDc nDc fDc ++ wAI K aDd nDd fDd ++ wRo K hRo sRo) s.heap.size = A at hD ⊢
  have hA : ∀ q : Nat, s.heap.size ≤ q → A q := fun q h => by rw [← hAe]; exact Or.inr h
  have hS : va_S A s.heap s.heap [] := va_S.rf
  have iX10 : ∀ w ∈ wsX100, w ∈ wz_X10_bestRule := fun w h => List.mem_cons_of_mem _ (inlX10 w h)
  suffices hgo : ∀ Q : State → Prop, Q = MQ below (va_Qi (fun r u => r = res.1 ∧ u = res.2) (fun u t => BW D K A (match u.1 with | _ => wMn K hMn rMn0 (hRo 99) rMn3 rMn4 rMn5 (hDr 99) rMn7 rMn8 rMn9 rMn10 u.2.1 ++ wDr K hDr rDr1 aDc aDd u.2.2.1 ++ wAI K aDc nDc u.2.2.2.1 ++ wAI K aDd nDd u.2.2.2.2 ++ wRo K hRo sRo) t) A) args s 0 0 A → W p l e (headSpec wz_X10_bestRule r_X10_bestRule).room s m args below meth c s.heap [] 0 0 Q (entryFrame m args 1) from hgo _ rfl
  intro Q hQ
  have hen : entryFrame m args 1 = entryFrame m (([.ref (hMn 99)] : List Value).toArray) 1 := by rw [hargs]
  have hl := lv_entry ([.ref (hMn 99)]) (n := 1) (Nat.le_of_ble_eq_true rfl)
  rw [hen, lg_entry_eq]
  generalize (lg_sl ([.ref (hMn 99)]) ++ List.replicate (1 - (lg_sl ([.ref (hMn 99)])).length) Slot.unset).toArray = ls at hl ⊢
  have hl : lv_has ls 1 [(0, .ref (hMn 99))] := hl
  unfold f_X10_bestRule at hf
  obtain ⟨H, hHe⟩ : ∃ z, z = s.heap := ⟨_, rfl⟩
  obtain ⟨locs, hLe⟩ : ∃ z : List Loc, z = [] := ⟨_, rfl⟩
  rw [← hLe]
  have hS : va_S A s.heap H locs := by rw [hHe, hLe]; exact hS
  have hP : va_P D vwCl (wMn K hMn rMn0 (hRo 99) rMn3 rMn4 rMn5 (hDr 99) rMn7 rMn8 rMn9 rMn10 sMn ++ wDr K hDr rDr1 aDc aDd sDr ++ wAI K aDc nDc fDc ++ wAI K aDd nDd fDd ++ wRo K hRo sRo) H := by rw [hHe]; exact hP
  have hgo : W p l e (headSpec wz_X10_bestRule r_X10_bestRule).room s m args below meth c H locs 0 0 Q (F0 m 0 ls []) := by
    refine lv_aload_n hx hb dX10_bestRule_0 rfl (lv_at hl 0 rfl) ?_
    refine va_get (D := D) (ci := 9) (v := .ref (hRo 99)) (C := RX10) (T := TX10) (N := 14) hx hb hts iX10 hown hK hP 0 (rwl (rwl (rwl (rwl o_Mn)))) rfl 2 (by decide) (htl _ (mB1 _ (List.mem_of_getElem? (i := 18) rfl))) (fun _ h9 => h9) rfl dX10_bestRule_1 ?_
    obtain ⟨o1, go1, hf⟩ := bd_s hf
    refine ro_Vi (As := []) (rest := []) ⟨hx, hb, hml, hown, hts⟩ (c_X9_isTold l D K F hRo sRo o1 go1) (cwV 0 hts (gcV_X9_isTold (mB30 _ (List.mem_of_getElem? (i := 0) rfl))) rfl rfl rfl hdV_X9_isTold ⟨Nat.le_of_ble_eq_true rfl, Nat.le_of_ble_eq_true rfl⟩) hK hP hS (va_PL (cs := [wMn K hMn rMn0 (hRo 99) rMn3 rMn4 rMn5 (hDr 99) rMn7 rMn8 rMn9 rMn10 sMn, wDr K hDr rDr1 aDc aDd sDr, wAI K aDc nDc fDc, wAI K aDd nDd fDd, wRo K hRo sRo]) (cc := [wRo K hRo sRo]) hP (fl5 _ _ _ _ _) [4] rfl (fl1 _)) (va_recv hK hP (ci := 8) (q0 := ((((1 + 2) + 1) + 1) + 0)) rfl (rwr (lnA (lnA (lnA ln_Mn ln_Dr) ln_AI) ln_AI) o_Ro)) rfl hl.1 rfl (Nat.le_of_ble_eq_true rfl) dX10_bestRule_4 ⟨Nat.zero_le _, Nat.zero_le _⟩ (fun H locs hP hS => ?_)
    refine lv_if_ne (tgt := 16) hx hb dX10_bestRule_7 (by decide) (fun c2 => ?_) (fun c2 => ?_)
    · have hf := it_f hf c2
      refine lv_aload_n hx hb dX10_bestRule_16 rfl (lv_at hl 0 rfl) ?_
      refine lv_aload_n hx hb dX10_bestRule_17 rfl (lv_at hl 0 rfl) ?_
      refine va_get (D := D) (ci := 9) (v := .ref (hDr 99)) (C := RX10) (T := TX10) (N := 14) hx hb hts iX10 hown hK hP 0 (rwl (rwl (rwl (rwl o_Mn)))) rfl 6 (by decide) (htl _ (mB2 _ (List.mem_of_getElem? (i := 7) rfl))) (fun _ h9 => h9) rfl dX10_bestRule_18 ?_
      refine lv_aload_n hx hb dX10_bestRule_21 rfl (lv_at hl 0 rfl) ?_
      refine va_get (D := D) (ci := 9) (v := .ref (hRo 99)) (C := RX10) (T := TX10) (N := 14) hx hb hts iX10 hown hK hP 0 (rwl (rwl (rwl (rwl o_Mn)))) rfl 2 (by decide) (htl _ (mB1 _ (List.mem_of_getElem? (i := 18) rfl))) (fun _ h9 => h9) rfl dX10_bestRule_22 ?_
      obtain ⟨o3, go3, hf⟩ := bd_s hf
      refine rk_Vi (wn := wMn K hMn rMn0 (hRo 99) rMn3 rMn4 rMn5 (hDr 99) rMn7 rMn8 rMn9 rMn10 sMn ++ wDr K hDr rDr1 aDc aDd o3.2.1 ++ wAI K aDc nDc o3.2.2.1 ++ wAI K aDd nDd o3.2.2.2 ++ wRo K hRo sRo) [wMn K hMn rMn0 (hRo 99) rMn3 rMn4 rMn5 (hDr 99) rMn7 rMn8 rMn9 rMn10 sMn, wDr K hDr rDr1 aDc aDd sDr, wAI K aDc nDc fDc, wAI K aDd nDd fDd, wRo K hRo sRo] [wDr K hDr rDr1 aDc aDd sDr, wAI K aDc nDc fDc, wAI K aDd nDd fDd, wRo K hRo sRo] [wDr K hDr rDr1 aDc aDd o3.2.1, wAI K aDc nDc o3.2.2.1, wAI K aDd nDd o3.2.2.2, wRo K hRo sRo] [wMn K hMn rMn0 (hRo 99) rMn3 rMn4 rMn5 (hDr 99) rMn7 rMn8 rMn9 rMn10 sMn, wDr K hDr rDr1 aDc aDd o3.2.1, wAI K aDc nDc o3.2.2.1, wAI K aDd nDd o3.2.2.2, wRo K hRo sRo] (As := [.ref (hRo 99)]) (rest := [.ref (hMn 99)]) ⟨hx, hb, hml, hown, hts⟩ (c_X1_ruleOfLeastMean l D K F hDr rDr1 aDc nDc aDd nDd hRo H.size sDr fDc fDd sRo o3 go3) (cwV 1 hts (gcV_X1_ruleOfLeastMean (mB46 _ (List.mem_of_getElem? (i := 23) rfl))) rfl rfl rfl hdV_X1_ruleOfLeastMean ⟨Nat.le_of_ble_eq_true rfl, Nat.le_of_ble_eq_true rfl⟩) hK hP hD hS hA [1, 2, 3, 4] (fl5 _ _ _ _ _) rfl (by decide) (fl4 _ _ _ _) (fl4 _ _ _ _) rfl rfl (fl5 _ _ _ _ _) (va_recv hK hP (ci := 1) (q0 := (1 + 0)) rfl (rwl (rwl (rwl (rwr ln_Mn o_Dr))))) rfl hl.1 rfl (Nat.le_of_ble_eq_true rfl) dX10_bestRule_25 ⟨Nat.zero_le _, Nat.zero_le _⟩ (fun H locs hP hD hS => ?_)
      have hP : va_P D vwCl (wMn K hMn rMn0 (hRo 99) rMn3 rMn4 rMn5 (hDr 99) rMn7 rMn8 rMn9 rMn10 sMn ++ wDr K hDr rDr1 aDc aDd o3.2.1 ++ wAI K aDc nDc o3.2.2.1 ++ wAI K aDd nDd o3.2.2.2 ++ wRo K hRo sRo) H := hP
      have hD : va_D A (wMn K hMn rMn0 (hRo 99) rMn3 rMn4 rMn5 (hDr 99) rMn7 rMn8 rMn9 rMn10 sMn ++ wDr K hDr rDr1 aDc aDd o3.2.1 ++ wAI K aDc nDc o3.2.2.1 ++ wAI K aDd nDd o3.2.2.2 ++ wRo K hRo sRo) := hD
      obtain ⟨o4, go4, hf⟩ := bd_s hf
      refine rk_Vi (wn := wMn K hMn rMn0 (hRo 99) rMn3 rMn4 rMn5 (hDr 99) rMn7 rMn8 rMn9 rMn10 o4.2 ++ wDr K hDr rDr1 aDc aDd o3.2.1 ++ wAI K aDc nDc o3.2.2.1 ++ wAI K aDd nDd o3.2.2.2 ++ wRo K hRo sRo) [wMn K hMn rMn0 (hRo 99) rMn3 rMn4 rMn5 (hDr 99) rMn7 rMn8 rMn9 rMn10 sMn, wDr K hDr rDr1 aDc aDd o3.2.1, wAI K aDc nDc o3.2.2.1, wAI K aDd nDd o3.2.2.2, wRo K hRo sRo] [wMn K hMn rMn0 (hRo 99) rMn3 rMn4 rMn5 (hDr 99) rMn7 rMn8 rMn9 rMn10 sMn] [wMn K hMn rMn0 (hRo 99) rMn3 rMn4 rMn5 (hDr 99) rMn7 rMn8 rMn9 rMn10 o4.2] [wMn K hMn rMn0 (hRo 99) rMn3 rMn4 rMn5 (hDr 99) rMn7 rMn8 rMn9 rMn10 o4.2, wDr K hDr rDr1 aDc aDd o3.2.1, wAI K aDc nDc o3.2.2.1, wAI K aDd nDd o3.2.2.2, wRo K hRo sRo] (As := [.int o3.1]) (rest := []) ⟨hx, hb, hml, hown, hts⟩ (c_X10_accept l D K F hMn rMn0 (hRo 99) rMn3 rMn4 rMn5 (hDr 99) rMn7 rMn8 rMn9 rMn10 H.size sMn o3.1 o4 go4) (cwV 1 hts (gcV_X10_accept (mB17 _ (List.mem_of_getElem? (i := 14) rfl))) rfl rfl rfl hdV_X10_accept ⟨Nat.le_of_ble_eq_true rfl, Nat.le_of_ble_eq_true rfl⟩) hK hP hD hS hA [0] (fl5 _ _ _ _ _) rfl (by decide) (fl1 _) (fl1 _) rfl rfl (fl5 _ _ _ _ _) (va_recv hK hP (ci := 9) (q0 := 0) rfl (rwl (rwl (rwl (rwl o_Mn))))) rfl hl.1 rfl (Nat.le_of_ble_eq_true rfl) dX10_bestRule_28 ⟨Nat.zero_le _, Nat.zero_le _⟩ (fun H locs hP hD hS => ?_)
      have hP : va_P D vwCl (wMn K hMn rMn0 (hRo 99) rMn3 rMn4 rMn5 (hDr 99) rMn7 rMn8 rMn9 rMn10 o4.2 ++ wDr K hDr rDr1 aDc aDd o3.2.1 ++ wAI K aDc nDc o3.2.2.1 ++ wAI K aDd nDd o3.2.2.2 ++ wRo K hRo sRo) H := hP
      have hD : va_D A (wMn K hMn rMn0 (hRo 99) rMn3 rMn4 rMn5 (hDr 99) rMn7 rMn8 rMn9 rMn10 o4.2 ++ wDr K hDr rDr1 aDc aDd o3.2.1 ++ wAI K aDc nDc o3.2.2.1 ++ wAI K aDd nDd o3.2.2.2 ++ wRo K hRo sRo) := hD
      have e9 := Option.some.inj hf
      rw [hQ]
      exact W.iret (v := o4.1) hx hb hr (fun t ht hW => ⟨⟨o4.1, (0, o4.2, o3.2.1, o3.2.2.1, o3.2.2.2), rfl, ⟨pr1 e9, pr2 e9⟩, ⟨by rw [ht]; exact hP, va_K.moved hW.alike hK, hD⟩⟩, hS.F ht⟩) hS.2.2 dX10_bestRule_31
    · have hf := it_t hf c2
      refine lv_aload_n hx hb dX10_bestRule_10 rfl (lv_at hl 0 rfl) ?_
      refine lv_iconst (v := (1 : Int32)) hx hb dX10_bestRule_11 (by decide) ?_
      obtain ⟨o5, go5, hf⟩ := bd_s hf
      refine rk_Vi (wn := wMn K hMn rMn0 (hRo 99) rMn3 rMn4 rMn5 (hDr 99) rMn7 rMn8 rMn9 rMn10 o5.2 ++ wDr K hDr rDr1 aDc aDd sDr ++ wAI K aDc nDc fDc ++ wAI K aDd nDd fDd ++ wRo K hRo sRo) [wMn K hMn rMn0 (hRo 99) rMn3 rMn4 rMn5 (hDr 99) rMn7 rMn8 rMn9 rMn10 sMn, wDr K hDr rDr1 aDc aDd sDr, wAI K aDc nDc fDc, wAI K aDd nDd fDd, wRo K hRo sRo] [wMn K hMn rMn0 (hRo 99) rMn3 rMn4 rMn5 (hDr 99) rMn7 rMn8 rMn9 rMn10 sMn] [wMn K hMn rMn0 (hRo 99) rMn3 rMn4 rMn5 (hDr 99) rMn7 rMn8 rMn9 rMn10 o5.2] [wMn K hMn rMn0 (hRo 99) rMn3 rMn4 rMn5 (hDr 99) rMn7 rMn8 rMn9 rMn10 o5.2, wDr K hDr rDr1 aDc aDd sDr, wAI K aDc nDc fDc, wAI K aDd nDd fDd, wRo K hRo sRo] (As := [.int (1 : Int32)]) (rest := []) ⟨hx, hb, hml, hown, hts⟩ (c_X10_refuse l D K F hMn rMn0 (hRo 99) rMn3 rMn4 rMn5 (hDr 99) rMn7 rMn8 rMn9 rMn10 H.size sMn (1 : Int32) o5 go5) (cwV 1 hts (gcV_X10_refuse (mB7 _ (List.mem_of_getElem? (i := 18) rfl))) rfl rfl rfl hdV_X10_refuse ⟨Nat.le_of_ble_eq_true rfl, Nat.le_of_ble_eq_true rfl⟩) hK hP hD hS hA [0] (fl5 _ _ _ _ _) rfl (by decide) (fl1 _) (fl1 _) rfl rfl (fl5 _ _ _ _ _) (va_recv hK hP (ci := 9) (q0 := 0) rfl (rwl (rwl (rwl (rwl o_Mn))))) rfl hl.1 rfl (Nat.le_of_ble_eq_true rfl) dX10_bestRule_12 ⟨Nat.zero_le _, Nat.zero_le _⟩ (fun H locs hP hD hS => ?_)
      have hP : va_P D vwCl (wMn K hMn rMn0 (hRo 99) rMn3 rMn4 rMn5 (hDr 99) rMn7 rMn8 rMn9 rMn10 o5.2 ++ wDr K hDr rDr1 aDc aDd sDr ++ wAI K aDc nDc fDc ++ wAI K aDd nDd fDd ++ wRo K hRo sRo) H := hP
      have hD : va_D A (wMn K hMn rMn0 (hRo 99) rMn3 rMn4 rMn5 (hDr 99) rMn7 rMn8 rMn9 rMn10 o5.2 ++ wDr K hDr rDr1 aDc aDd sDr ++ wAI K aDc nDc fDc ++ wAI K aDd nDd fDd ++ wRo K hRo sRo) := hD
      have e9 := Option.some.inj hf
      rw [hQ]
      exact W.iret (v := o5.1) hx hb hr (fun t ht hW => ⟨⟨o5.1, (0, o5.2, sDr, fDc, fDd), rfl, ⟨pr1 e9, pr2 e9⟩, ⟨by rw [ht]; exact hP, va_K.moved hW.alike hK, hD⟩⟩, hS.F ht⟩) hS.2.2 dX10_bestRule_15
  rw [hHe] at hgo
  exact hgo

def wz_X10_bestMean : List Cond := .code yX10_bestMean cX10_bestMean 2 (some .long) :: wsL_law
abbrev r_X10_bestMean : Room := { frames := 7, cells := 0, slots := 0, locals := 181 }
set_option maxHeartbeats 4000000 in
set_option maxRecDepth 100000 in
theorem c_X10_bestMean (l : Launch) (D : va_G) (K : Nat → ClassId) (F : Nat) (hMn : Nat → Nat) (rMn0 : Nat) (rMn3 : Nat) (rMn4 : Nat) (rMn5 : Nat) (rMn7 : Nat) (rMn8 : Nat) (rMn9 : Nat) (hDr : Nat → Nat) (rDr1 : Nat) (aDc nDc : Nat) (aDd nDd : Nat) (hFr : Nat → Nat) (hRo : Nat → Nat) (sz : Nat) (sMn : MS) (sDr : MS) (fDc : (Nat → Int32)) (fDd : (Nat → Int32)) (sFr : MS) (sRo : MS) (p1 : Int32) (res : Int64 × Nat × MS × MS × (Nat → Int32) × (Nat → Int32) × MS) (hf : f_X10_bestMean F nDc nDd sRo p1 sMn sDr fDc fDd sFr = some res) : Met l yX10_bestMean wz_X10_bestMean r_X10_bestMean (va_Pc [.ref (hMn 99), .int p1] (PW D K (wMn K hMn rMn0 (hRo 99) rMn3 rMn4 rMn5 (hDr 99) rMn7 rMn8 rMn9 (hFr 99) sMn ++ wDr K hDr rDr1 aDc aDd sDr ++ wAI K aDc nDc fDc ++ wAI K aDd nDd fDd ++ wFr K hFr sFr ++ wRo K hRo sRo) sz)) (va_Ql (fun r u => r = res.1 ∧ u = res.2) (fun u t => BW D K (va_A (wMn K hMn rMn0 (hRo 99) rMn3 rMn4 rMn5 (hDr 99) rMn7 rMn8 rMn9 (hFr 99) sMn ++ wDr K hDr rDr1 aDc aDd sDr ++ wAI K aDc nDc fDc ++ wAI K aDd nDd fDd ++ wFr K hFr sFr ++ wRo K hRo sRo) sz) (match u.1 with | _ => wMn K hMn rMn0 (hRo 99) rMn3 rMn4 rMn5 (hDr 99) rMn7 rMn8 rMn9 (hFr 99) u.2.1 ++ wDr K hDr rDr1 aDc aDd u.2.2.1 ++ wAI K aDc nDc u.2.2.2.1 ++ wAI K aDd nDd u.2.2.2.2.1 ++ wFr K hFr u.2.2.2.2.2 ++ wRo K hRo sRo) t) (va_A (wMn K hMn rMn0 (hRo 99) rMn3 rMn4 rMn5 (hDr 99) rMn7 rMn8 rMn9 (hFr 99) sMn ++ wDr K hDr rDr1 aDc aDd sDr ++ wAI K aDc nDc fDc ++ wAI K aDd nDd fDd ++ wFr K hFr sFr ++ wRo K hRo sRo) sz)) 0 0 (va_A (wMn K hMn rMn0 (hRo 99) rMn3 rMn4 rMn5 (hDr 99) rMn7 rMn8 rMn9 (hFr 99) sMn ++ wDr K hDr rDr1 aDc aDd sDr ++ wAI K aDc nDc fDc ++ wAI K aDd nDd fDd ++ wFr K hFr sFr ++ wRo K hRo sRo) sz) := by
  refine Met.ofW (cc := cX10_bestMean) (maxL := 2) (ret := (some .long)) (by decide) rfl ?_
  intro p e s m args below meth c s₁ B hml hv
  obtain ⟨hargs, hsz, hP, hK, hD0⟩ := hv
  have hx := B.exec
  have hb := B.bytes
  have hr := B.returns
  have hts := atoms_spec (ws := wz_X10_bestMean) B.pre
  have htl : ∀ w ∈ wsL_law, w.before args s = true := fun w h => hts w (List.mem_cons_of_mem _ h)
  have hown : s.vm.findClass RX10 = some m.cls := findClass_of_methodNamed B.named
  have hlocks := B.notSynchronized
  subst hsz
  have hD := hD0.self (sz := s.heap.size)
  generalize hAe : va_A (wMn K hMn rMn0 (hRo 99) rMn3 rMn4 rMn5 (hDr 99) rMn7 rMn8 rMn9 (hFr 99) sMn ++ wDr K hDr rDr1 aDc aDd sDr ++ wAI K aDc nDc fDc ++ wAI K aDd nDd fDd ++ wFr K hFr sFr ++ wRo K hRo sRo) s.heap.size = A at hD ⊢
  have hA : ∀ q : Nat, s.heap.size ≤ q → A q := fun q h => by rw [← hAe]; exact Or.inr h
  have hS : va_S A s.heap s.heap [] := va_S.rf
  have iX10 : ∀ w ∈ wsX100, w ∈ wz_X10_bestMean := fun w h => List.mem_cons_of_mem _ (inlX10 w h)
  suffices hgo : ∀ Q : State → Prop, Q = MQ below (va_Ql (fun r u => r = res.1 ∧ u = res.2) (fun u t => BW D K A (match u.1 with | _ => wMn K hMn rMn0 (hRo 99) rMn3 rMn4 rMn5 (hDr 99) rMn7 rMn8 rMn9 (hFr 99) u.2.1 ++ wDr K hDr rDr1 aDc aDd u.2.2.1 ++ wAI K aDc nDc u.2.2.2.1 ++ wAI K aDd nDd u.2.2.2.2.1 ++ wFr K hFr u.2.2.2.2.2 ++ wRo K hRo sRo) t) A) args s 0 0 A → W p l e (headSpec wz_X10_bestMean r_X10_bestMean).room s m args below meth c s.heap [] 0 0 Q (entryFrame m args 2) from hgo _ rfl
  intro Q hQ
  have hen : entryFrame m args 2 = entryFrame m (([.ref (hMn 99), .int p1] : List Value).toArray) 2 := by rw [hargs]
  have hl := lv_entry ([.ref (hMn 99), .int p1]) (n := 2) (Nat.le_of_ble_eq_true rfl)
  rw [hen, lg_entry_eq]
  generalize (lg_sl ([.ref (hMn 99), .int p1]) ++ List.replicate (2 - (lg_sl ([.ref (hMn 99), .int p1])).length) Slot.unset).toArray = ls at hl ⊢
  have hl : lv_has ls 2 [(0, .ref (hMn 99)), (1, .int p1)] := hl
  unfold f_X10_bestMean at hf
  obtain ⟨H, hHe⟩ : ∃ z, z = s.heap := ⟨_, rfl⟩
  obtain ⟨locs, hLe⟩ : ∃ z : List Loc, z = [] := ⟨_, rfl⟩
  rw [← hLe]
  have hS : va_S A s.heap H locs := by rw [hHe, hLe]; exact hS
  have hP : va_P D vwCl (wMn K hMn rMn0 (hRo 99) rMn3 rMn4 rMn5 (hDr 99) rMn7 rMn8 rMn9 (hFr 99) sMn ++ wDr K hDr rDr1 aDc aDd sDr ++ wAI K aDc nDc fDc ++ wAI K aDd nDd fDd ++ wFr K hFr sFr ++ wRo K hRo sRo) H := by rw [hHe]; exact hP
  have hgo : W p l e (headSpec wz_X10_bestMean r_X10_bestMean).room s m args below meth c H locs 0 0 Q (F0 m 0 ls []) := by
    refine lv_aload_n hx hb dX10_bestMean_0 rfl (lv_at hl 0 rfl) ?_
    refine va_get (D := D) (ci := 9) (v := .ref (hRo 99)) (C := RX10) (T := TX10) (N := 14) hx hb hts iX10 hown hK hP 0 (rwl (rwl (rwl (rwl (rwl o_Mn))))) rfl 2 (by decide) (htl _ (mB1 _ (List.mem_of_getElem? (i := 18) rfl))) (fun _ h9 => h9) rfl dX10_bestMean_1 ?_
    obtain ⟨o1, go1, hf⟩ := bd_s hf
    refine ro_Vi (As := []) (rest := []) ⟨hx, hb, hml, hown, hts⟩ (c_X9_isTold l D K F hRo sRo o1 go1) (cwV 0 hts (gcV_X9_isTold (mB30 _ (List.mem_of_getElem? (i := 0) rfl))) rfl rfl rfl hdV_X9_isTold ⟨Nat.le_of_ble_eq_true rfl, Nat.le_of_ble_eq_true rfl⟩) hK hP hS (va_PL (cs := [wMn K hMn rMn0 (hRo 99) rMn3 rMn4 rMn5 (hDr 99) rMn7 rMn8 rMn9 (hFr 99) sMn, wDr K hDr rDr1 aDc aDd sDr, wAI K aDc nDc fDc, wAI K aDd nDd fDd, wFr K hFr sFr, wRo K hRo sRo]) (cc := [wRo K hRo sRo]) hP (fl6 _ _ _ _ _ _) [5] rfl (fl1 _)) (va_recv hK hP (ci := 8) (q0 := (((((1 + 2) + 1) + 1) + 1) + 0)) rfl (rwr (lnA (lnA (lnA (lnA ln_Mn ln_Dr) ln_AI) ln_AI) ln_Fr) o_Ro)) rfl hl.1 rfl (Nat.le_of_ble_eq_true rfl) dX10_bestMean_4 ⟨Nat.zero_le _, Nat.zero_le _⟩ (fun H locs hP hS => ?_)
    refine lv_if_ne (tgt := 17) hx hb dX10_bestMean_7 (by decide) (fun c2 => ?_) (fun c2 => ?_)
    · have hf := it_f hf c2
      refine lv_aload_n hx hb dX10_bestMean_17 rfl (lv_at hl 0 rfl) ?_
      refine va_get (D := D) (ci := 9) (v := .ref (hDr 99)) (C := RX10) (T := TX10) (N := 14) hx hb hts iX10 hown hK hP 0 (rwl (rwl (rwl (rwl (rwl o_Mn))))) rfl 6 (by decide) (htl _ (mB2 _ (List.mem_of_getElem? (i := 7) rfl))) (fun _ h9 => h9) rfl dX10_bestMean_18 ?_
      refine lv_aload_n hx hb dX10_bestMean_21 rfl (lv_at hl 0 rfl) ?_
      refine va_get (D := D) (ci := 9) (v := .ref (hRo 99)) (C := RX10) (T := TX10) (N := 14) hx hb hts iX10 hown hK hP 0 (rwl (rwl (rwl (rwl (rwl o_Mn))))) rfl 2 (by decide) (htl _ (mB1 _ (List.mem_of_getElem? (i := 18) rfl))) (fun _ h9 => h9) rfl dX10_bestMean_22 ?_
      refine lv_iconst (v := (4 : Int32)) hx hb dX10_bestMean_25 (by decide) ?_
      refine lv_aload_n hx hb dX10_bestMean_26 rfl (lv_at hl 0 rfl) ?_
      refine va_get (D := D) (ci := 9) (v := .ref (hFr 99)) (C := RX10) (T := TX10) (N := 14) hx hb hts iX10 hown hK hP 0 (rwl (rwl (rwl (rwl (rwl o_Mn))))) rfl 10 (by decide) (htl _ (mB2 _ (List.mem_of_getElem? (i := 23) rfl))) (fun _ h9 => h9) rfl dX10_bestMean_27 ?_
      obtain ⟨o3, go3, hf⟩ := bd_s hf
      refine rk_Vv (wn := wMn K hMn rMn0 (hRo 99) rMn3 rMn4 rMn5 (hDr 99) rMn7 rMn8 rMn9 (hFr 99) sMn ++ wDr K hDr rDr1 aDc aDd o3.1 ++ wAI K aDc nDc o3.2.1 ++ wAI K aDd nDd o3.2.2.1 ++ wFr K hFr o3.2.2.2 ++ wRo K hRo sRo) [wMn K hMn rMn0 (hRo 99) rMn3 rMn4 rMn5 (hDr 99) rMn7 rMn8 rMn9 (hFr 99) sMn, wDr K hDr rDr1 aDc aDd sDr, wAI K aDc nDc fDc, wAI K aDd nDd fDd, wFr K hFr sFr, wRo K hRo sRo] [wDr K hDr rDr1 aDc aDd sDr, wAI K aDc nDc fDc, wAI K aDd nDd fDd, wFr K hFr sFr, wRo K hRo sRo] [wDr K hDr rDr1 aDc aDd o3.1, wAI K aDc nDc o3.2.1, wAI K aDd nDd o3.2.2.1, wFr K hFr o3.2.2.2, wRo K hRo sRo] [wMn K hMn rMn0 (hRo 99) rMn3 rMn4 rMn5 (hDr 99) rMn7 rMn8 rMn9 (hFr 99) sMn, wDr K hDr rDr1 aDc aDd o3.1, wAI K aDc nDc o3.2.1, wAI K aDd nDd o3.2.2.1, wFr K hFr o3.2.2.2, wRo K hRo sRo] (As := [.ref (hRo 99), .int (4 : Int32), .ref (hFr 99)]) (rest := []) ⟨hx, hb, hml, hown, hts⟩ (c_X1_reckonMean l D K F hDr rDr1 aDc nDc aDd nDd hFr hRo H.size sDr fDc fDd sFr sRo (4 : Int32) o3 go3) (cwV 3 hts (gcV_X1_reckonMean (mB46 _ (List.mem_of_getElem? (i := 11) rfl))) rfl rfl rfl hdV_X1_reckonMean ⟨Nat.le_of_ble_eq_true rfl, Nat.le_of_ble_eq_true rfl⟩) hK hP hD hS hA [1, 2, 3, 4, 5] (fl6 _ _ _ _ _ _) rfl (by decide) (fl5 _ _ _ _ _) (fl5 _ _ _ _ _) rfl rfl (fl6 _ _ _ _ _ _) (va_recv hK hP (ci := 1) (q0 := (1 + 0)) rfl (rwl (rwl (rwl (rwl (rwr ln_Mn o_Dr)))))) rfl hl.1 rfl (Nat.le_of_ble_eq_true rfl) dX10_bestMean_30 ⟨Nat.zero_le _, Nat.zero_le _⟩ (fun H locs hP hD hS => ?_)
      have hP : va_P D vwCl (wMn K hMn rMn0 (hRo 99) rMn3 rMn4 rMn5 (hDr 99) rMn7 rMn8 rMn9 (hFr 99) sMn ++ wDr K hDr rDr1 aDc aDd o3.1 ++ wAI K aDc nDc o3.2.1 ++ wAI K aDd nDd o3.2.2.1 ++ wFr K hFr o3.2.2.2 ++ wRo K hRo sRo) H := hP
      have hD : va_D A (wMn K hMn rMn0 (hRo 99) rMn3 rMn4 rMn5 (hDr 99) rMn7 rMn8 rMn9 (hFr 99) sMn ++ wDr K hDr rDr1 aDc aDd o3.1 ++ wAI K aDc nDc o3.2.1 ++ wAI K aDd nDd o3.2.2.1 ++ wFr K hFr o3.2.2.2 ++ wRo K hRo sRo) := hD
      refine lv_aload_n hx hb dX10_bestMean_33 rfl (lv_at hl 0 rfl) ?_
      refine lv_iload_n hx hb dX10_bestMean_34 rfl (lv_at hl 1 rfl) ?_
      obtain ⟨o4, go4, hf⟩ := bd_s hf
      refine rk_Vl (wn := wMn K hMn rMn0 (hRo 99) rMn3 rMn4 rMn5 (hDr 99) rMn7 rMn8 rMn9 (hFr 99) o4.2 ++ wDr K hDr rDr1 aDc aDd o3.1 ++ wAI K aDc nDc o3.2.1 ++ wAI K aDd nDd o3.2.2.1 ++ wFr K hFr o3.2.2.2 ++ wRo K hRo sRo) [wMn K hMn rMn0 (hRo 99) rMn3 rMn4 rMn5 (hDr 99) rMn7 rMn8 rMn9 (hFr 99) sMn, wDr K hDr rDr1 aDc aDd o3.1, wAI K aDc nDc o3.2.1, wAI K aDd nDd o3.2.2.1, wFr K hFr o3.2.2.2, wRo K hRo sRo] [wMn K hMn rMn0 (hRo 99) rMn3 rMn4 rMn5 (hDr 99) rMn7 rMn8 rMn9 (hFr 99) sMn, wFr K hFr o3.2.2.2] [wMn K hMn rMn0 (hRo 99) rMn3 rMn4 rMn5 (hDr 99) rMn7 rMn8 rMn9 (hFr 99) o4.2, wFr K hFr o3.2.2.2] [wMn K hMn rMn0 (hRo 99) rMn3 rMn4 rMn5 (hDr 99) rMn7 rMn8 rMn9 (hFr 99) o4.2, wDr K hDr rDr1 aDc aDd o3.1, wAI K aDc nDc o3.2.1, wAI K aDd nDd o3.2.2.1, wFr K hFr o3.2.2.2, wRo K hRo sRo] (As := [.int p1]) (rest := []) ⟨hx, hb, hml, hown, hts⟩ (c_X10_acceptFraction l D K F hMn rMn0 (hRo 99) rMn3 rMn4 rMn5 (hDr 99) rMn7 rMn8 rMn9 hFr H.size sMn o3.2.2.2 p1 o4 go4) (cwV 1 hts (gcV_X10_acceptFraction (mB44 _ (List.mem_of_getElem? (i := 5) rfl))) rfl rfl rfl hdV_X10_acceptFraction ⟨Nat.le_of_ble_eq_true rfl, Nat.le_of_ble_eq_true rfl⟩) hK hP hD hS hA [0, 4] (fl6 _ _ _ _ _ _) rfl (by decide) (fl2 _ _) (fl2 _ _) rfl rfl (fl6 _ _ _ _ _ _) (va_recv hK hP (ci := 9) (q0 := 0) rfl (rwl (rwl (rwl (rwl (rwl o_Mn)))))) rfl hl.1 rfl (Nat.le_of_ble_eq_true rfl) dX10_bestMean_35 ⟨Nat.zero_le _, Nat.zero_le _⟩ (fun H locs hP hD hS => ?_)
      have hP : va_P D vwCl (wMn K hMn rMn0 (hRo 99) rMn3 rMn4 rMn5 (hDr 99) rMn7 rMn8 rMn9 (hFr 99) o4.2 ++ wDr K hDr rDr1 aDc aDd o3.1 ++ wAI K aDc nDc o3.2.1 ++ wAI K aDd nDd o3.2.2.1 ++ wFr K hFr o3.2.2.2 ++ wRo K hRo sRo) H := hP
      have hD : va_D A (wMn K hMn rMn0 (hRo 99) rMn3 rMn4 rMn5 (hDr 99) rMn7 rMn8 rMn9 (hFr 99) o4.2 ++ wDr K hDr rDr1 aDc aDd o3.1 ++ wAI K aDc nDc o3.2.1 ++ wAI K aDd nDd o3.2.2.1 ++ wFr K hFr o3.2.2.2 ++ wRo K hRo sRo) := hD
      have e9 := Option.some.inj hf
      rw [hQ]
      exact W.lret (v := o4.1) hx hb hr (fun t ht hW => ⟨⟨o4.1, (0, o4.2, o3.1, o3.2.1, o3.2.2.1, o3.2.2.2), rfl, ⟨pr1 e9, pr2 e9⟩, ⟨by rw [ht]; exact hP, va_K.moved hW.alike hK, hD⟩⟩, hS.F ht⟩) hS.2.2 dX10_bestMean_38
    · have hf := it_t hf c2
      refine lv_aload_n hx hb dX10_bestMean_10 rfl (lv_at hl 0 rfl) ?_
      refine lv_iconst (v := (1 : Int32)) hx hb dX10_bestMean_11 (by decide) ?_
      obtain ⟨o5, go5, hf⟩ := bd_s hf
      refine rk_Vi (wn := wMn K hMn rMn0 (hRo 99) rMn3 rMn4 rMn5 (hDr 99) rMn7 rMn8 rMn9 (hFr 99) o5.2 ++ wDr K hDr rDr1 aDc aDd sDr ++ wAI K aDc nDc fDc ++ wAI K aDd nDd fDd ++ wFr K hFr sFr ++ wRo K hRo sRo) [wMn K hMn rMn0 (hRo 99) rMn3 rMn4 rMn5 (hDr 99) rMn7 rMn8 rMn9 (hFr 99) sMn, wDr K hDr rDr1 aDc aDd sDr, wAI K aDc nDc fDc, wAI K aDd nDd fDd, wFr K hFr sFr, wRo K hRo sRo] [wMn K hMn rMn0 (hRo 99) rMn3 rMn4 rMn5 (hDr 99) rMn7 rMn8 rMn9 (hFr 99) sMn] [wMn K hMn rMn0 (hRo 99) rMn3 rMn4 rMn5 (hDr 99) rMn7 rMn8 rMn9 (hFr 99) o5.2] [wMn K hMn rMn0 (hRo 99) rMn3 rMn4 rMn5 (hDr 99) rMn7 rMn8 rMn9 (hFr 99) o5.2, wDr K hDr rDr1 aDc aDd sDr, wAI K aDc nDc fDc, wAI K aDd nDd fDd, wFr K hFr sFr, wRo K hRo sRo] (As := [.int (1 : Int32)]) (rest := []) ⟨hx, hb, hml, hown, hts⟩ (c_X10_refuse l D K F hMn rMn0 (hRo 99) rMn3 rMn4 rMn5 (hDr 99) rMn7 rMn8 rMn9 (hFr 99) H.size sMn (1 : Int32) o5 go5) (cwV 1 hts (gcV_X10_refuse (mB7 _ (List.mem_of_getElem? (i := 18) rfl))) rfl rfl rfl hdV_X10_refuse ⟨Nat.le_of_ble_eq_true rfl, Nat.le_of_ble_eq_true rfl⟩) hK hP hD hS hA [0] (fl6 _ _ _ _ _ _) rfl (by decide) (fl1 _) (fl1 _) rfl rfl (fl6 _ _ _ _ _ _) (va_recv hK hP (ci := 9) (q0 := 0) rfl (rwl (rwl (rwl (rwl (rwl o_Mn)))))) rfl hl.1 rfl (Nat.le_of_ble_eq_true rfl) dX10_bestMean_12 ⟨Nat.zero_le _, Nat.zero_le _⟩ (fun H locs hP hD hS => ?_)
      have hP : va_P D vwCl (wMn K hMn rMn0 (hRo 99) rMn3 rMn4 rMn5 (hDr 99) rMn7 rMn8 rMn9 (hFr 99) o5.2 ++ wDr K hDr rDr1 aDc aDd sDr ++ wAI K aDc nDc fDc ++ wAI K aDd nDd fDd ++ wFr K hFr sFr ++ wRo K hRo sRo) H := hP
      have hD : va_D A (wMn K hMn rMn0 (hRo 99) rMn3 rMn4 rMn5 (hDr 99) rMn7 rMn8 rMn9 (hFr 99) o5.2 ++ wDr K hDr rDr1 aDc aDd sDr ++ wAI K aDc nDc fDc ++ wAI K aDd nDd fDd ++ wFr K hFr sFr ++ wRo K hRo sRo) := hD
      refine lv_i2l (v := o5.1.toInt64) hx hb dX10_bestMean_15 rfl ?_
      have e9 := Option.some.inj hf
      rw [hQ]
      exact W.lret (v := o5.1.toInt64) hx hb hr (fun t ht hW => ⟨⟨o5.1.toInt64, (0, o5.2, sDr, fDc, fDd, sFr), rfl, ⟨pr1 e9, pr2 e9⟩, ⟨by rw [ht]; exact hP, va_K.moved hW.alike hK, hD⟩⟩, hS.F ht⟩) hS.2.2 dX10_bestMean_16
  rw [hHe] at hgo
  exact hgo

theorem gcV_X1_bestPints {T0 : Cond} {own : String} {i : Nat} (h : Cond.methodLink own i yX1_bestPints ∈ wsL_law) : GoodIn (T0 :: wsL_law) (wsV own i RX1 yX1_bestPints wz_X1_bestPints) := gV h (mB47 _ (List.mem_of_getElem? (i := 21) rfl)) (mB47 _ (List.mem_of_getElem? (i := 22) rfl)) (mB2 _ (List.mem_of_getElem? (i := 6) rfl)) (mB47 _ (List.mem_of_getElem? (i := 23) rfl))
theorem hdV_X1_bestPints : yX1_bestPints.cls = RX1 ∧ yX1_bestPints.cls ≠ "java/lang/invoke/MethodHandle" ∧ yX1_bestPints.cls ≠ "java/lang/invoke/VarHandle" ∧ (parseMethodDescriptor yX1_bestPints.desc).map (fun d => d.parameters.length) = some 4 := by decide +kernel
def wz_X10_buy : List Cond := .code yX10_buy cX10_buy 5 (some .int) :: wsL_law
abbrev r_X10_buy : Room := { frames := 7, cells := 0, slots := 0, locals := 182 }
set_option maxHeartbeats 4000000 in
set_option maxRecDepth 100000 in
theorem c_X10_buy (l : Launch) (D : va_G) (K : Nat → ClassId) (F : Nat) (hMn : Nat → Nat) (rMn0 : Nat) (rMn3 : Nat) (rMn4 : Nat) (rMn5 : Nat) (rMn7 : Nat) (rMn8 : Nat) (rMn9 : Nat) (rMn10 : Nat) (hDr : Nat → Nat) (rDr1 : Nat) (aDc nDc : Nat) (aDd nDd : Nat) (hRo : Nat → Nat) (sz : Nat) (sMn : MS) (sDr : MS) (fDc : (Nat → Int32)) (fDd : (Nat → Int32)) (sRo : MS) (p1 : Int32) (p2 : Int32) (p3 : Int32) (res : Int32 × Nat × MS × MS × (Nat → Int32) × (Nat → Int32)) (hf : f_X10_buy F nDc nDd sRo p1 p2 p3 sMn sDr fDc fDd = some res) : Met l yX10_buy wz_X10_buy r_X10_buy (va_Pc [.ref (hMn 99), .int p1, .int p2, .int p3] (PW D K (wMn K hMn rMn0 (hRo 99) rMn3 rMn4 rMn5 (hDr 99) rMn7 rMn8 rMn9 rMn10 sMn ++ wDr K hDr rDr1 aDc aDd sDr ++ wAI K aDc nDc fDc ++ wAI K aDd nDd fDd ++ wRo K hRo sRo) sz)) (va_Qi (fun r u => r = res.1 ∧ u = res.2) (fun u t => BW D K (va_A (wMn K hMn rMn0 (hRo 99) rMn3 rMn4 rMn5 (hDr 99) rMn7 rMn8 rMn9 rMn10 sMn ++ wDr K hDr rDr1 aDc aDd sDr ++ wAI K aDc nDc fDc ++ wAI K aDd nDd fDd ++ wRo K hRo sRo) sz) (match u.1 with | _ => wMn K hMn rMn0 (hRo 99) rMn3 rMn4 rMn5 (hDr 99) rMn7 rMn8 rMn9 rMn10 u.2.1 ++ wDr K hDr rDr1 aDc aDd u.2.2.1 ++ wAI K aDc nDc u.2.2.2.1 ++ wAI K aDd nDd u.2.2.2.2 ++ wRo K hRo sRo) t) (va_A (wMn K hMn rMn0 (hRo 99) rMn3 rMn4 rMn5 (hDr 99) rMn7 rMn8 rMn9 rMn10 sMn ++ wDr K hDr rDr1 aDc aDd sDr ++ wAI K aDc nDc fDc ++ wAI K aDd nDd fDd ++ wRo K hRo sRo) sz)) 0 0 (va_A (wMn K hMn rMn0 (hRo 99) rMn3 rMn4 rMn5 (hDr 99) rMn7 rMn8 rMn9 rMn10 sMn ++ wDr K hDr rDr1 aDc aDd sDr ++ wAI K aDc nDc fDc ++ wAI K aDd nDd fDd ++ wRo K hRo sRo) sz) := by
  refine Met.ofW (cc := cX10_buy) (maxL := 5) (ret := (some .int)) (by decide) rfl ?_
  intro p e s m args below meth c s₁ B hml hv
  obtain ⟨hargs, hsz, hP, hK, hD0⟩ := hv
  have hx := B.exec
  have hb := B.bytes
  have hr := B.returns
  have hts := atoms_spec (ws := wz_X10_buy) B.pre
  have htl : ∀ w ∈ wsL_law, w.before args s = true := fun w h => hts w (List.mem_cons_of_mem _ h)
  have hown : s.vm.findClass RX10 = some m.cls := findClass_of_methodNamed B.named
  have hlocks := B.notSynchronized
  subst hsz
  have hD := hD0.self (sz := s.heap.size)
  generalize hAe : va_A (wMn K hMn rMn0 (hRo 99) rMn3 rMn4 rMn5 (hDr 99) rMn7 rMn8 rMn9 rMn10 sMn ++ wDr K hDr rDr1 aDc aDd sDr ++ wAI K aDc nDc fDc ++ wAI K aDd nDd fDd ++ wRo K hRo sRo) s.heap.size = A at hD ⊢
  have hA : ∀ q : Nat, s.heap.size ≤ q → A q := fun q h => by rw [← hAe]; exact Or.inr h
  have hS : va_S A s.heap s.heap [] := va_S.rf
  have iX10 : ∀ w ∈ wsX100, w ∈ wz_X10_buy := fun w h => List.mem_cons_of_mem _ (inlX10 w h)
  suffices hgo : ∀ Q : State → Prop, Q = MQ below (va_Qi (fun r u => r = res.1 ∧ u = res.2) (fun u t => BW D K A (match u.1 with | _ => wMn K hMn rMn0 (hRo 99) rMn3 rMn4 rMn5 (hDr 99) rMn7 rMn8 rMn9 rMn10 u.2.1 ++ wDr K hDr rDr1 aDc aDd u.2.2.1 ++ wAI K aDc nDc u.2.2.2.1 ++ wAI K aDd nDd u.2.2.2.2 ++ wRo K hRo sRo) t) A) args s 0 0 A → W p l e (headSpec wz_X10_buy r_X10_buy).room s m args below meth c s.heap [] 0 0 Q (entryFrame m args 5) from hgo _ rfl
  intro Q hQ
  have hen : entryFrame m args 5 = entryFrame m (([.ref (hMn 99), .int p1, .int p2, .int p3] : List Value).toArray) 5 := by rw [hargs]
  have hl := lv_entry ([.ref (hMn 99), .int p1, .int p2, .int p3]) (n := 5) (Nat.le_of_ble_eq_true rfl)
  rw [hen, lg_entry_eq]
  generalize (lg_sl ([.ref (hMn 99), .int p1, .int p2, .int p3]) ++ List.replicate (5 - (lg_sl ([.ref (hMn 99), .int p1, .int p2, .int p3])).length) Slot.unset).toArray = ls at hl ⊢
  have hl : lv_has ls 5 [(0, .ref (hMn 99)), (1, .int p1), (2, .int p2), (3, .int p3)] := hl
  unfold f_X10_buy at hf
  obtain ⟨H, hHe⟩ : ∃ z, z = s.heap := ⟨_, rfl⟩
  obtain ⟨locs, hLe⟩ : ∃ z : List Loc, z = [] := ⟨_, rfl⟩
  rw [← hLe]
  have hS : va_S A s.heap H locs := by rw [hHe, hLe]; exact hS
  have hP : va_P D vwCl (wMn K hMn rMn0 (hRo 99) rMn3 rMn4 rMn5 (hDr 99) rMn7 rMn8 rMn9 rMn10 sMn ++ wDr K hDr rDr1 aDc aDd sDr ++ wAI K aDc nDc fDc ++ wAI K aDd nDd fDd ++ wRo K hRo sRo) H := by rw [hHe]; exact hP
  have hgo : W p l e (headSpec wz_X10_buy r_X10_buy).room s m args below meth c H locs 0 0 Q (F0 m 0 ls []) := by
    refine lv_aload_n hx hb dX10_buy_0 rfl (lv_at hl 0 rfl) ?_
    refine lv_iload_n hx hb dX10_buy_1 rfl (lv_at hl 1 rfl) ?_
    refine lv_iload_n hx hb dX10_buy_2 rfl (lv_at hl 2 rfl) ?_
    refine lv_iload_n hx hb dX10_buy_3 rfl (lv_at hl 3 rfl) ?_
    obtain ⟨o1, go1, hf⟩ := bd_s hf
    refine ro_Vi (As := [.int p1, .int p2, .int p3]) (rest := []) ⟨hx, hb, hml, hown, hts⟩ (c_X10_whyNoBuying l D K F hMn rMn0 rMn3 rMn4 rMn5 (hDr 99) rMn7 rMn8 rMn9 rMn10 hRo sMn sRo p1 p2 p3 o1 go1) (cwV 3 hts (gcV_X10_whyNoBuying (mB39 _ (List.mem_of_getElem? (i := 4) rfl))) rfl rfl rfl hdV_X10_whyNoBuying ⟨Nat.le_of_ble_eq_true rfl, Nat.le_of_ble_eq_true rfl⟩) hK hP hS (va_PL (cs := [wMn K hMn rMn0 (hRo 99) rMn3 rMn4 rMn5 (hDr 99) rMn7 rMn8 rMn9 rMn10 sMn, wDr K hDr rDr1 aDc aDd sDr, wAI K aDc nDc fDc, wAI K aDd nDd fDd, wRo K hRo sRo]) (cc := [wMn K hMn rMn0 (hRo 99) rMn3 rMn4 rMn5 (hDr 99) rMn7 rMn8 rMn9 rMn10 sMn, wRo K hRo sRo]) hP (fl5 _ _ _ _ _) [0, 4] rfl (fl2 _ _)) (va_recv hK hP (ci := 9) (q0 := 0) rfl (rwl (rwl (rwl (rwl o_Mn))))) rfl hl.1 rfl (Nat.le_of_ble_eq_true rfl) dX10_buy_4 ⟨Nat.zero_le _, Nat.zero_le _⟩ (fun H locs hP hS => ?_)
    refine lv_istore (lv' := [(4, .int o1), (0, .ref (hMn 99)), (1, .int p1), (2, .int p2), (3, .int p3)]) hx hb dX10_buy_7 hl (by decide) rfl (fun ls hl => ?_)
    refine lv_iload hx hb dX10_buy_9 (lv_at hl 0 rfl) ?_
    refine lv_if_eq (tgt := 21) hx hb dX10_buy_11 (by decide) (fun c2 => ?_) (fun c2 => ?_)
    · have hf := it_t hf c2
      refine lv_aload_n hx hb dX10_buy_21 rfl (lv_at hl 1 rfl) ?_
      refine lv_aload_n hx hb dX10_buy_22 rfl (lv_at hl 1 rfl) ?_
      refine va_get (D := D) (ci := 9) (v := .ref (hDr 99)) (C := RX10) (T := TX10) (N := 14) hx hb hts iX10 hown hK hP 0 (rwl (rwl (rwl (rwl o_Mn)))) rfl 6 (by decide) (htl _ (mB2 _ (List.mem_of_getElem? (i := 7) rfl))) (fun _ h9 => h9) rfl dX10_buy_23 ?_
      refine lv_aload_n hx hb dX10_buy_26 rfl (lv_at hl 1 rfl) ?_
      refine va_get (D := D) (ci := 9) (v := .ref (hRo 99)) (C := RX10) (T := TX10) (N := 14) hx hb hts iX10 hown hK hP 0 (rwl (rwl (rwl (rwl o_Mn)))) rfl 2 (by decide) (htl _ (mB1 _ (List.mem_of_getElem? (i := 18) rfl))) (fun _ h9 => h9) rfl dX10_buy_27 ?_
      refine lv_iload_n hx hb dX10_buy_30 rfl (lv_at hl 2 rfl) ?_
      refine lv_iload_n hx hb dX10_buy_31 rfl (lv_at hl 3 rfl) ?_
      refine lv_aload_n hx hb dX10_buy_32 rfl (lv_at hl 1 rfl) ?_
      refine va_get (D := D) (ci := 9) (v := .ref (hRo 99)) (C := RX10) (T := TX10) (N := 14) hx hb hts iX10 hown hK hP 0 (rwl (rwl (rwl (rwl o_Mn)))) rfl 2 (by decide) (htl _ (mB1 _ (List.mem_of_getElem? (i := 18) rfl))) (fun _ h9 => h9) rfl dX10_buy_33 ?_
      refine lv_iload_n hx hb dX10_buy_36 rfl (lv_at hl 2 rfl) ?_
      refine lv_iload_n hx hb dX10_buy_37 rfl (lv_at hl 4 rfl) ?_
      obtain ⟨o3, go3, hf⟩ := bd_s hf
      refine ro_Vi (As := [.int p1, .int p3]) (rest := [.int p2, .int p1, .ref (hRo 99), .ref (hDr 99), .ref (hMn 99)]) ⟨hx, hb, hml, hown, hts⟩ (c_X9_priceAt l D K F hRo sRo p1 p3 o3 go3) (cwV 2 hts (gcV_X9_priceAt (mB39 _ (List.mem_of_getElem? (i := 8) rfl))) rfl rfl rfl hdV_X9_priceAt ⟨Nat.le_of_ble_eq_true rfl, Nat.le_of_ble_eq_true rfl⟩) hK hP hS (va_PL (cs := [wMn K hMn rMn0 (hRo 99) rMn3 rMn4 rMn5 (hDr 99) rMn7 rMn8 rMn9 rMn10 sMn, wDr K hDr rDr1 aDc aDd sDr, wAI K aDc nDc fDc, wAI K aDd nDd fDd, wRo K hRo sRo]) (cc := [wRo K hRo sRo]) hP (fl5 _ _ _ _ _) [4] rfl (fl1 _)) (va_recv hK hP (ci := 8) (q0 := ((((1 + 2) + 1) + 1) + 0)) rfl (rwr (lnA (lnA (lnA ln_Mn ln_Dr) ln_AI) ln_AI) o_Ro)) rfl hl.1 rfl (Nat.le_of_ble_eq_true rfl) dX10_buy_38 ⟨Nat.zero_le _, Nat.zero_le _⟩ (fun H locs hP hS => ?_)
      obtain ⟨o4, go4, hf⟩ := bd_s hf
      refine rk_Vi (wn := wMn K hMn rMn0 (hRo 99) rMn3 rMn4 rMn5 (hDr 99) rMn7 rMn8 rMn9 rMn10 sMn ++ wDr K hDr rDr1 aDc aDd o4.2.1 ++ wAI K aDc nDc o4.2.2.1 ++ wAI K aDd nDd o4.2.2.2 ++ wRo K hRo sRo) [wMn K hMn rMn0 (hRo 99) rMn3 rMn4 rMn5 (hDr 99) rMn7 rMn8 rMn9 rMn10 sMn, wDr K hDr rDr1 aDc aDd sDr, wAI K aDc nDc fDc, wAI K aDd nDd fDd, wRo K hRo sRo] [wDr K hDr rDr1 aDc aDd sDr, wAI K aDc nDc fDc, wAI K aDd nDd fDd, wRo K hRo sRo] [wDr K hDr rDr1 aDc aDd o4.2.1, wAI K aDc nDc o4.2.2.1, wAI K aDd nDd o4.2.2.2, wRo K hRo sRo] [wMn K hMn rMn0 (hRo 99) rMn3 rMn4 rMn5 (hDr 99) rMn7 rMn8 rMn9 rMn10 sMn, wDr K hDr rDr1 aDc aDd o4.2.1, wAI K aDc nDc o4.2.2.1, wAI K aDd nDd o4.2.2.2, wRo K hRo sRo] (As := [.ref (hRo 99), .int p1, .int p2, .int o3]) (rest := [.ref (hMn 99)]) ⟨hx, hb, hml, hown, hts⟩ (c_X1_bestPints l D K F hDr rDr1 aDc nDc aDd nDd hRo H.size sDr fDc fDd sRo p1 p2 o3 o4 go4) (cwV 4 hts (gcV_X1_bestPints (mB47 _ (List.mem_of_getElem? (i := 20) rfl))) rfl rfl rfl hdV_X1_bestPints ⟨Nat.le_of_ble_eq_true rfl, Nat.le_of_ble_eq_true rfl⟩) hK hP hD hS hA [1, 2, 3, 4] (fl5 _ _ _ _ _) rfl (by decide) (fl4 _ _ _ _) (fl4 _ _ _ _) rfl rfl (fl5 _ _ _ _ _) (va_recv hK hP (ci := 1) (q0 := (1 + 0)) rfl (rwl (rwl (rwl (rwr ln_Mn o_Dr))))) rfl hl.1 rfl (Nat.le_of_ble_eq_true rfl) dX10_buy_41 ⟨Nat.zero_le _, Nat.zero_le _⟩ (fun H locs hP hD hS => ?_)
      have hP : va_P D vwCl (wMn K hMn rMn0 (hRo 99) rMn3 rMn4 rMn5 (hDr 99) rMn7 rMn8 rMn9 rMn10 sMn ++ wDr K hDr rDr1 aDc aDd o4.2.1 ++ wAI K aDc nDc o4.2.2.1 ++ wAI K aDd nDd o4.2.2.2 ++ wRo K hRo sRo) H := hP
      have hD : va_D A (wMn K hMn rMn0 (hRo 99) rMn3 rMn4 rMn5 (hDr 99) rMn7 rMn8 rMn9 rMn10 sMn ++ wDr K hDr rDr1 aDc aDd o4.2.1 ++ wAI K aDc nDc o4.2.2.1 ++ wAI K aDd nDd o4.2.2.2 ++ wRo K hRo sRo) := hD
      obtain ⟨o5, go5, hf⟩ := bd_s hf
      refine rk_Vi (wn := wMn K hMn rMn0 (hRo 99) rMn3 rMn4 rMn5 (hDr 99) rMn7 rMn8 rMn9 rMn10 o5.2 ++ wDr K hDr rDr1 aDc aDd o4.2.1 ++ wAI K aDc nDc o4.2.2.1 ++ wAI K aDd nDd o4.2.2.2 ++ wRo K hRo sRo) [wMn K hMn rMn0 (hRo 99) rMn3 rMn4 rMn5 (hDr 99) rMn7 rMn8 rMn9 rMn10 sMn, wDr K hDr rDr1 aDc aDd o4.2.1, wAI K aDc nDc o4.2.2.1, wAI K aDd nDd o4.2.2.2, wRo K hRo sRo] [wMn K hMn rMn0 (hRo 99) rMn3 rMn4 rMn5 (hDr 99) rMn7 rMn8 rMn9 rMn10 sMn] [wMn K hMn rMn0 (hRo 99) rMn3 rMn4 rMn5 (hDr 99) rMn7 rMn8 rMn9 rMn10 o5.2] [wMn K hMn rMn0 (hRo 99) rMn3 rMn4 rMn5 (hDr 99) rMn7 rMn8 rMn9 rMn10 o5.2, wDr K hDr rDr1 aDc aDd o4.2.1, wAI K aDc nDc o4.2.2.1, wAI K aDd nDd o4.2.2.2, wRo K hRo sRo] (As := [.int o4.1]) (rest := []) ⟨hx, hb, hml, hown, hts⟩ (c_X10_accept l D K F hMn rMn0 (hRo 99) rMn3 rMn4 rMn5 (hDr 99) rMn7 rMn8 rMn9 rMn10 H.size sMn o4.1 o5 go5) (cwV 1 hts (gcV_X10_accept (mB17 _ (List.mem_of_getElem? (i := 14) rfl))) rfl rfl rfl hdV_X10_accept ⟨Nat.le_of_ble_eq_true rfl, Nat.le_of_ble_eq_true rfl⟩) hK hP hD hS hA [0] (fl5 _ _ _ _ _) rfl (by decide) (fl1 _) (fl1 _) rfl rfl (fl5 _ _ _ _ _) (va_recv hK hP (ci := 9) (q0 := 0) rfl (rwl (rwl (rwl (rwl o_Mn))))) rfl hl.1 rfl (Nat.le_of_ble_eq_true rfl) dX10_buy_44 ⟨Nat.zero_le _, Nat.zero_le _⟩ (fun H locs hP hD hS => ?_)
      have hP : va_P D vwCl (wMn K hMn rMn0 (hRo 99) rMn3 rMn4 rMn5 (hDr 99) rMn7 rMn8 rMn9 rMn10 o5.2 ++ wDr K hDr rDr1 aDc aDd o4.2.1 ++ wAI K aDc nDc o4.2.2.1 ++ wAI K aDd nDd o4.2.2.2 ++ wRo K hRo sRo) H := hP
      have hD : va_D A (wMn K hMn rMn0 (hRo 99) rMn3 rMn4 rMn5 (hDr 99) rMn7 rMn8 rMn9 rMn10 o5.2 ++ wDr K hDr rDr1 aDc aDd o4.2.1 ++ wAI K aDc nDc o4.2.2.1 ++ wAI K aDd nDd o4.2.2.2 ++ wRo K hRo sRo) := hD
      have e9 := Option.some.inj hf
      rw [hQ]
      exact W.iret (v := o5.1) hx hb hr (fun t ht hW => ⟨⟨o5.1, (0, o5.2, o4.2.1, o4.2.2.1, o4.2.2.2), rfl, ⟨pr1 e9, pr2 e9⟩, ⟨by rw [ht]; exact hP, va_K.moved hW.alike hK, hD⟩⟩, hS.F ht⟩) hS.2.2 dX10_buy_47
    · have hf := it_f hf c2
      refine lv_aload_n hx hb dX10_buy_14 rfl (lv_at hl 1 rfl) ?_
      refine lv_iload hx hb dX10_buy_15 (lv_at hl 0 rfl) ?_
      obtain ⟨o6, go6, hf⟩ := bd_s hf
      refine rk_Vi (wn := wMn K hMn rMn0 (hRo 99) rMn3 rMn4 rMn5 (hDr 99) rMn7 rMn8 rMn9 rMn10 o6.2 ++ wDr K hDr rDr1 aDc aDd sDr ++ wAI K aDc nDc fDc ++ wAI K aDd nDd fDd ++ wRo K hRo sRo) [wMn K hMn rMn0 (hRo 99) rMn3 rMn4 rMn5 (hDr 99) rMn7 rMn8 rMn9 rMn10 sMn, wDr K hDr rDr1 aDc aDd sDr, wAI K aDc nDc fDc, wAI K aDd nDd fDd, wRo K hRo sRo] [wMn K hMn rMn0 (hRo 99) rMn3 rMn4 rMn5 (hDr 99) rMn7 rMn8 rMn9 rMn10 sMn] [wMn K hMn rMn0 (hRo 99) rMn3 rMn4 rMn5 (hDr 99) rMn7 rMn8 rMn9 rMn10 o6.2] [wMn K hMn rMn0 (hRo 99) rMn3 rMn4 rMn5 (hDr 99) rMn7 rMn8 rMn9 rMn10 o6.2, wDr K hDr rDr1 aDc aDd sDr, wAI K aDc nDc fDc, wAI K aDd nDd fDd, wRo K hRo sRo] (As := [.int o1]) (rest := []) ⟨hx, hb, hml, hown, hts⟩ (c_X10_refuse l D K F hMn rMn0 (hRo 99) rMn3 rMn4 rMn5 (hDr 99) rMn7 rMn8 rMn9 rMn10 H.size sMn o1 o6 go6) (cwV 1 hts (gcV_X10_refuse (mB7 _ (List.mem_of_getElem? (i := 18) rfl))) rfl rfl rfl hdV_X10_refuse ⟨Nat.le_of_ble_eq_true rfl, Nat.le_of_ble_eq_true rfl⟩) hK hP hD hS hA [0] (fl5 _ _ _ _ _) rfl (by decide) (fl1 _) (fl1 _) rfl rfl (fl5 _ _ _ _ _) (va_recv hK hP (ci := 9) (q0 := 0) rfl (rwl (rwl (rwl (rwl o_Mn))))) rfl hl.1 rfl (Nat.le_of_ble_eq_true rfl) dX10_buy_17 ⟨Nat.zero_le _, Nat.zero_le _⟩ (fun H locs hP hD hS => ?_)
      have hP : va_P D vwCl (wMn K hMn rMn0 (hRo 99) rMn3 rMn4 rMn5 (hDr 99) rMn7 rMn8 rMn9 rMn10 o6.2 ++ wDr K hDr rDr1 aDc aDd sDr ++ wAI K aDc nDc fDc ++ wAI K aDd nDd fDd ++ wRo K hRo sRo) H := hP
      have hD : va_D A (wMn K hMn rMn0 (hRo 99) rMn3 rMn4 rMn5 (hDr 99) rMn7 rMn8 rMn9 rMn10 o6.2 ++ wDr K hDr rDr1 aDc aDd sDr ++ wAI K aDc nDc fDc ++ wAI K aDd nDd fDd ++ wRo K hRo sRo) := hD
      have e9 := Option.some.inj hf
      rw [hQ]
      exact W.iret (v := o6.1) hx hb hr (fun t ht hW => ⟨⟨o6.1, (0, o6.2, sDr, fDc, fDd), rfl, ⟨pr1 e9, pr2 e9⟩, ⟨by rw [ht]; exact hP, va_K.moved hW.alike hK, hD⟩⟩, hS.F ht⟩) hS.2.2 dX10_buy_20
  rw [hHe] at hgo
  exact hgo

def wz_X10_sure : List Cond := .code yX10_sure cX10_sure 2 (some .long) :: wsL_law
abbrev r_X10_sure : Room := { frames := 7, cells := 0, slots := 0, locals := 181 }
set_option maxHeartbeats 4000000 in
set_option maxRecDepth 100000 in
theorem c_X10_sure (l : Launch) (D : va_G) (K : Nat → ClassId) (F : Nat) (hMn : Nat → Nat) (rMn0 : Nat) (rMn3 : Nat) (rMn4 : Nat) (rMn5 : Nat) (rMn7 : Nat) (rMn8 : Nat) (rMn9 : Nat) (hDr : Nat → Nat) (rDr1 : Nat) (aDc nDc : Nat) (aDd nDd : Nat) (hFr : Nat → Nat) (hRo : Nat → Nat) (sz : Nat) (sMn : MS) (sDr : MS) (fDc : (Nat → Int32)) (fDd : (Nat → Int32)) (sFr : MS) (sRo : MS) (p1 : Int32) (res : Int64 × Nat × MS × MS × (Nat → Int32) × (Nat → Int32) × MS) (hf : f_X10_sure F nDc nDd sRo p1 sMn sDr fDc fDd sFr = some res) : Met l yX10_sure wz_X10_sure r_X10_sure (va_Pc [.ref (hMn 99), .int p1] (PW D K (wMn K hMn rMn0 (hRo 99) rMn3 rMn4 rMn5 (hDr 99) rMn7 rMn8 rMn9 (hFr 99) sMn ++ wDr K hDr rDr1 aDc aDd sDr ++ wAI K aDc nDc fDc ++ wAI K aDd nDd fDd ++ wFr K hFr sFr ++ wRo K hRo sRo) sz)) (va_Ql (fun r u => r = res.1 ∧ u = res.2) (fun u t => BW D K (va_A (wMn K hMn rMn0 (hRo 99) rMn3 rMn4 rMn5 (hDr 99) rMn7 rMn8 rMn9 (hFr 99) sMn ++ wDr K hDr rDr1 aDc aDd sDr ++ wAI K aDc nDc fDc ++ wAI K aDd nDd fDd ++ wFr K hFr sFr ++ wRo K hRo sRo) sz) (match u.1 with | _ => wMn K hMn rMn0 (hRo 99) rMn3 rMn4 rMn5 (hDr 99) rMn7 rMn8 rMn9 (hFr 99) u.2.1 ++ wDr K hDr rDr1 aDc aDd u.2.2.1 ++ wAI K aDc nDc u.2.2.2.1 ++ wAI K aDd nDd u.2.2.2.2.1 ++ wFr K hFr u.2.2.2.2.2 ++ wRo K hRo sRo) t) (va_A (wMn K hMn rMn0 (hRo 99) rMn3 rMn4 rMn5 (hDr 99) rMn7 rMn8 rMn9 (hFr 99) sMn ++ wDr K hDr rDr1 aDc aDd sDr ++ wAI K aDc nDc fDc ++ wAI K aDd nDd fDd ++ wFr K hFr sFr ++ wRo K hRo sRo) sz)) 0 0 (va_A (wMn K hMn rMn0 (hRo 99) rMn3 rMn4 rMn5 (hDr 99) rMn7 rMn8 rMn9 (hFr 99) sMn ++ wDr K hDr rDr1 aDc aDd sDr ++ wAI K aDc nDc fDc ++ wAI K aDd nDd fDd ++ wFr K hFr sFr ++ wRo K hRo sRo) sz) := by
  refine Met.ofW (cc := cX10_sure) (maxL := 2) (ret := (some .long)) (by decide) rfl ?_
  intro p e s m args below meth c s₁ B hml hv
  obtain ⟨hargs, hsz, hP, hK, hD0⟩ := hv
  have hx := B.exec
  have hb := B.bytes
  have hr := B.returns
  have hts := atoms_spec (ws := wz_X10_sure) B.pre
  have htl : ∀ w ∈ wsL_law, w.before args s = true := fun w h => hts w (List.mem_cons_of_mem _ h)
  have hown : s.vm.findClass RX10 = some m.cls := findClass_of_methodNamed B.named
  have hlocks := B.notSynchronized
  subst hsz
  have hD := hD0.self (sz := s.heap.size)
  generalize hAe : va_A (wMn K hMn rMn0 (hRo 99) rMn3 rMn4 rMn5 (hDr 99) rMn7 rMn8 rMn9 (hFr 99) sMn ++ wDr K hDr rDr1 aDc aDd sDr ++ wAI K aDc nDc fDc ++ wAI K aDd nDd fDd ++ wFr K hFr sFr ++ wRo K hRo sRo) s.heap.size = A at hD ⊢
  have hA : ∀ q : Nat, s.heap.size ≤ q → A q := fun q h => by rw [← hAe]; exact Or.inr h
  have hS : va_S A s.heap s.heap [] := va_S.rf
  have iX10 : ∀ w ∈ wsX100, w ∈ wz_X10_sure := fun w h => List.mem_cons_of_mem _ (inlX10 w h)
  suffices hgo : ∀ Q : State → Prop, Q = MQ below (va_Ql (fun r u => r = res.1 ∧ u = res.2) (fun u t => BW D K A (match u.1 with | _ => wMn K hMn rMn0 (hRo 99) rMn3 rMn4 rMn5 (hDr 99) rMn7 rMn8 rMn9 (hFr 99) u.2.1 ++ wDr K hDr rDr1 aDc aDd u.2.2.1 ++ wAI K aDc nDc u.2.2.2.1 ++ wAI K aDd nDd u.2.2.2.2.1 ++ wFr K hFr u.2.2.2.2.2 ++ wRo K hRo sRo) t) A) args s 0 0 A → W p l e (headSpec wz_X10_sure r_X10_sure).room s m args below meth c s.heap [] 0 0 Q (entryFrame m args 2) from hgo _ rfl
  intro Q hQ
  have hen : entryFrame m args 2 = entryFrame m (([.ref (hMn 99), .int p1] : List Value).toArray) 2 := by rw [hargs]
  have hl := lv_entry ([.ref (hMn 99), .int p1]) (n := 2) (Nat.le_of_ble_eq_true rfl)
  rw [hen, lg_entry_eq]
  generalize (lg_sl ([.ref (hMn 99), .int p1]) ++ List.replicate (2 - (lg_sl ([.ref (hMn 99), .int p1])).length) Slot.unset).toArray = ls at hl ⊢
  have hl : lv_has ls 2 [(0, .ref (hMn 99)), (1, .int p1)] := hl
  unfold f_X10_sure at hf
  obtain ⟨H, hHe⟩ : ∃ z, z = s.heap := ⟨_, rfl⟩
  obtain ⟨locs, hLe⟩ : ∃ z : List Loc, z = [] := ⟨_, rfl⟩
  rw [← hLe]
  have hS : va_S A s.heap H locs := by rw [hHe, hLe]; exact hS
  have hP : va_P D vwCl (wMn K hMn rMn0 (hRo 99) rMn3 rMn4 rMn5 (hDr 99) rMn7 rMn8 rMn9 (hFr 99) sMn ++ wDr K hDr rDr1 aDc aDd sDr ++ wAI K aDc nDc fDc ++ wAI K aDd nDd fDd ++ wFr K hFr sFr ++ wRo K hRo sRo) H := by rw [hHe]; exact hP
  have hgo : W p l e (headSpec wz_X10_sure r_X10_sure).room s m args below meth c H locs 0 0 Q (F0 m 0 ls []) := by
    refine lv_aload_n hx hb dX10_sure_0 rfl (lv_at hl 0 rfl) ?_
    refine va_get (D := D) (ci := 9) (v := .ref (hRo 99)) (C := RX10) (T := TX10) (N := 14) hx hb hts iX10 hown hK hP 0 (rwl (rwl (rwl (rwl (rwl o_Mn))))) rfl 2 (by decide) (htl _ (mB1 _ (List.mem_of_getElem? (i := 18) rfl))) (fun _ h9 => h9) rfl dX10_sure_1 ?_
    obtain ⟨o1, go1, hf⟩ := bd_s hf
    refine ro_Vi (As := []) (rest := []) ⟨hx, hb, hml, hown, hts⟩ (c_X9_isTold l D K F hRo sRo o1 go1) (cwV 0 hts (gcV_X9_isTold (mB30 _ (List.mem_of_getElem? (i := 0) rfl))) rfl rfl rfl hdV_X9_isTold ⟨Nat.le_of_ble_eq_true rfl, Nat.le_of_ble_eq_true rfl⟩) hK hP hS (va_PL (cs := [wMn K hMn rMn0 (hRo 99) rMn3 rMn4 rMn5 (hDr 99) rMn7 rMn8 rMn9 (hFr 99) sMn, wDr K hDr rDr1 aDc aDd sDr, wAI K aDc nDc fDc, wAI K aDd nDd fDd, wFr K hFr sFr, wRo K hRo sRo]) (cc := [wRo K hRo sRo]) hP (fl6 _ _ _ _ _ _) [5] rfl (fl1 _)) (va_recv hK hP (ci := 8) (q0 := (((((1 + 2) + 1) + 1) + 1) + 0)) rfl (rwr (lnA (lnA (lnA (lnA ln_Mn ln_Dr) ln_AI) ln_AI) ln_Fr) o_Ro)) rfl hl.1 rfl (Nat.le_of_ble_eq_true rfl) dX10_sure_4 ⟨Nat.zero_le _, Nat.zero_le _⟩ (fun H locs hP hS => ?_)
    refine lv_if_ne (tgt := 17) hx hb dX10_sure_7 (by decide) (fun c2 => ?_) (fun c2 => ?_)
    · have hf := it_f hf c2
      refine lv_aload_n hx hb dX10_sure_17 rfl (lv_at hl 0 rfl) ?_
      refine va_get (D := D) (ci := 9) (v := .ref (hDr 99)) (C := RX10) (T := TX10) (N := 14) hx hb hts iX10 hown hK hP 0 (rwl (rwl (rwl (rwl (rwl o_Mn))))) rfl 6 (by decide) (htl _ (mB2 _ (List.mem_of_getElem? (i := 7) rfl))) (fun _ h9 => h9) rfl dX10_sure_18 ?_
      refine lv_aload_n hx hb dX10_sure_21 rfl (lv_at hl 0 rfl) ?_
      refine va_get (D := D) (ci := 9) (v := .ref (hRo 99)) (C := RX10) (T := TX10) (N := 14) hx hb hts iX10 hown hK hP 0 (rwl (rwl (rwl (rwl (rwl o_Mn))))) rfl 2 (by decide) (htl _ (mB1 _ (List.mem_of_getElem? (i := 18) rfl))) (fun _ h9 => h9) rfl dX10_sure_22 ?_
      refine lv_iconst (v := (0 : Int32)) hx hb dX10_sure_25 (by decide) ?_
      refine lv_aload_n hx hb dX10_sure_26 rfl (lv_at hl 0 rfl) ?_
      refine va_get (D := D) (ci := 9) (v := .ref (hFr 99)) (C := RX10) (T := TX10) (N := 14) hx hb hts iX10 hown hK hP 0 (rwl (rwl (rwl (rwl (rwl o_Mn))))) rfl 10 (by decide) (htl _ (mB2 _ (List.mem_of_getElem? (i := 23) rfl))) (fun _ h9 => h9) rfl dX10_sure_27 ?_
      obtain ⟨o3, go3, hf⟩ := bd_s hf
      refine rk_Vv (wn := wMn K hMn rMn0 (hRo 99) rMn3 rMn4 rMn5 (hDr 99) rMn7 rMn8 rMn9 (hFr 99) sMn ++ wDr K hDr rDr1 aDc aDd o3.1 ++ wAI K aDc nDc o3.2.1 ++ wAI K aDd nDd o3.2.2.1 ++ wFr K hFr o3.2.2.2 ++ wRo K hRo sRo) [wMn K hMn rMn0 (hRo 99) rMn3 rMn4 rMn5 (hDr 99) rMn7 rMn8 rMn9 (hFr 99) sMn, wDr K hDr rDr1 aDc aDd sDr, wAI K aDc nDc fDc, wAI K aDd nDd fDd, wFr K hFr sFr, wRo K hRo sRo] [wDr K hDr rDr1 aDc aDd sDr, wAI K aDc nDc fDc, wAI K aDd nDd fDd, wFr K hFr sFr, wRo K hRo sRo] [wDr K hDr rDr1 aDc aDd o3.1, wAI K aDc nDc o3.2.1, wAI K aDd nDd o3.2.2.1, wFr K hFr o3.2.2.2, wRo K hRo sRo] [wMn K hMn rMn0 (hRo 99) rMn3 rMn4 rMn5 (hDr 99) rMn7 rMn8 rMn9 (hFr 99) sMn, wDr K hDr rDr1 aDc aDd o3.1, wAI K aDc nDc o3.2.1, wAI K aDd nDd o3.2.2.1, wFr K hFr o3.2.2.2, wRo K hRo sRo] (As := [.ref (hRo 99), .int (0 : Int32), .ref (hFr 99)]) (rest := []) ⟨hx, hb, hml, hown, hts⟩ (c_X1_reckonOdds l D K F hDr rDr1 aDc nDc aDd nDd hFr hRo H.size sDr fDc fDd sFr sRo (0 : Int32) o3 go3) (cwV 3 hts (gcV_X1_reckonOdds (mB42 _ (List.mem_of_getElem? (i := 17) rfl))) rfl rfl rfl hdV_X1_reckonOdds ⟨Nat.le_of_ble_eq_true rfl, Nat.le_of_ble_eq_true rfl⟩) hK hP hD hS hA [1, 2, 3, 4, 5] (fl6 _ _ _ _ _ _) rfl (by decide) (fl5 _ _ _ _ _) (fl5 _ _ _ _ _) rfl rfl (fl6 _ _ _ _ _ _) (va_recv hK hP (ci := 1) (q0 := (1 + 0)) rfl (rwl (rwl (rwl (rwl (rwr ln_Mn o_Dr)))))) rfl hl.1 rfl (Nat.le_of_ble_eq_true rfl) dX10_sure_30 ⟨Nat.zero_le _, Nat.zero_le _⟩ (fun H locs hP hD hS => ?_)
      have hP : va_P D vwCl (wMn K hMn rMn0 (hRo 99) rMn3 rMn4 rMn5 (hDr 99) rMn7 rMn8 rMn9 (hFr 99) sMn ++ wDr K hDr rDr1 aDc aDd o3.1 ++ wAI K aDc nDc o3.2.1 ++ wAI K aDd nDd o3.2.2.1 ++ wFr K hFr o3.2.2.2 ++ wRo K hRo sRo) H := hP
      have hD : va_D A (wMn K hMn rMn0 (hRo 99) rMn3 rMn4 rMn5 (hDr 99) rMn7 rMn8 rMn9 (hFr 99) sMn ++ wDr K hDr rDr1 aDc aDd o3.1 ++ wAI K aDc nDc o3.2.1 ++ wAI K aDd nDd o3.2.2.1 ++ wFr K hFr o3.2.2.2 ++ wRo K hRo sRo) := hD
      refine lv_aload_n hx hb dX10_sure_33 rfl (lv_at hl 0 rfl) ?_
      refine lv_iload_n hx hb dX10_sure_34 rfl (lv_at hl 1 rfl) ?_
      obtain ⟨o4, go4, hf⟩ := bd_s hf
      refine rk_Vl (wn := wMn K hMn rMn0 (hRo 99) rMn3 rMn4 rMn5 (hDr 99) rMn7 rMn8 rMn9 (hFr 99) o4.2 ++ wDr K hDr rDr1 aDc aDd o3.1 ++ wAI K aDc nDc o3.2.1 ++ wAI K aDd nDd o3.2.2.1 ++ wFr K hFr o3.2.2.2 ++ wRo K hRo sRo) [wMn K hMn rMn0 (hRo 99) rMn3 rMn4 rMn5 (hDr 99) rMn7 rMn8 rMn9 (hFr 99) sMn, wDr K hDr rDr1 aDc aDd o3.1, wAI K aDc nDc o3.2.1, wAI K aDd nDd o3.2.2.1, wFr K hFr o3.2.2.2, wRo K hRo sRo] [wMn K hMn rMn0 (hRo 99) rMn3 rMn4 rMn5 (hDr 99) rMn7 rMn8 rMn9 (hFr 99) sMn, wFr K hFr o3.2.2.2] [wMn K hMn rMn0 (hRo 99) rMn3 rMn4 rMn5 (hDr 99) rMn7 rMn8 rMn9 (hFr 99) o4.2, wFr K hFr o3.2.2.2] [wMn K hMn rMn0 (hRo 99) rMn3 rMn4 rMn5 (hDr 99) rMn7 rMn8 rMn9 (hFr 99) o4.2, wDr K hDr rDr1 aDc aDd o3.1, wAI K aDc nDc o3.2.1, wAI K aDd nDd o3.2.2.1, wFr K hFr o3.2.2.2, wRo K hRo sRo] (As := [.int p1]) (rest := []) ⟨hx, hb, hml, hown, hts⟩ (c_X10_acceptFraction l D K F hMn rMn0 (hRo 99) rMn3 rMn4 rMn5 (hDr 99) rMn7 rMn8 rMn9 hFr H.size sMn o3.2.2.2 p1 o4 go4) (cwV 1 hts (gcV_X10_acceptFraction (mB44 _ (List.mem_of_getElem? (i := 5) rfl))) rfl rfl rfl hdV_X10_acceptFraction ⟨Nat.le_of_ble_eq_true rfl, Nat.le_of_ble_eq_true rfl⟩) hK hP hD hS hA [0, 4] (fl6 _ _ _ _ _ _) rfl (by decide) (fl2 _ _) (fl2 _ _) rfl rfl (fl6 _ _ _ _ _ _) (va_recv hK hP (ci := 9) (q0 := 0) rfl (rwl (rwl (rwl (rwl (rwl o_Mn)))))) rfl hl.1 rfl (Nat.le_of_ble_eq_true rfl) dX10_sure_35 ⟨Nat.zero_le _, Nat.zero_le _⟩ (fun H locs hP hD hS => ?_)
      have hP : va_P D vwCl (wMn K hMn rMn0 (hRo 99) rMn3 rMn4 rMn5 (hDr 99) rMn7 rMn8 rMn9 (hFr 99) o4.2 ++ wDr K hDr rDr1 aDc aDd o3.1 ++ wAI K aDc nDc o3.2.1 ++ wAI K aDd nDd o3.2.2.1 ++ wFr K hFr o3.2.2.2 ++ wRo K hRo sRo) H := hP
      have hD : va_D A (wMn K hMn rMn0 (hRo 99) rMn3 rMn4 rMn5 (hDr 99) rMn7 rMn8 rMn9 (hFr 99) o4.2 ++ wDr K hDr rDr1 aDc aDd o3.1 ++ wAI K aDc nDc o3.2.1 ++ wAI K aDd nDd o3.2.2.1 ++ wFr K hFr o3.2.2.2 ++ wRo K hRo sRo) := hD
      have e9 := Option.some.inj hf
      rw [hQ]
      exact W.lret (v := o4.1) hx hb hr (fun t ht hW => ⟨⟨o4.1, (0, o4.2, o3.1, o3.2.1, o3.2.2.1, o3.2.2.2), rfl, ⟨pr1 e9, pr2 e9⟩, ⟨by rw [ht]; exact hP, va_K.moved hW.alike hK, hD⟩⟩, hS.F ht⟩) hS.2.2 dX10_sure_38
    · have hf := it_t hf c2
      refine lv_aload_n hx hb dX10_sure_10 rfl (lv_at hl 0 rfl) ?_
      refine lv_iconst (v := (1 : Int32)) hx hb dX10_sure_11 (by decide) ?_
      obtain ⟨o5, go5, hf⟩ := bd_s hf
      refine rk_Vi (wn := wMn K hMn rMn0 (hRo 99) rMn3 rMn4 rMn5 (hDr 99) rMn7 rMn8 rMn9 (hFr 99) o5.2 ++ wDr K hDr rDr1 aDc aDd sDr ++ wAI K aDc nDc fDc ++ wAI K aDd nDd fDd ++ wFr K hFr sFr ++ wRo K hRo sRo) [wMn K hMn rMn0 (hRo 99) rMn3 rMn4 rMn5 (hDr 99) rMn7 rMn8 rMn9 (hFr 99) sMn, wDr K hDr rDr1 aDc aDd sDr, wAI K aDc nDc fDc, wAI K aDd nDd fDd, wFr K hFr sFr, wRo K hRo sRo] [wMn K hMn rMn0 (hRo 99) rMn3 rMn4 rMn5 (hDr 99) rMn7 rMn8 rMn9 (hFr 99) sMn] [wMn K hMn rMn0 (hRo 99) rMn3 rMn4 rMn5 (hDr 99) rMn7 rMn8 rMn9 (hFr 99) o5.2] [wMn K hMn rMn0 (hRo 99) rMn3 rMn4 rMn5 (hDr 99) rMn7 rMn8 rMn9 (hFr 99) o5.2, wDr K hDr rDr1 aDc aDd sDr, wAI K aDc nDc fDc, wAI K aDd nDd fDd, wFr K hFr sFr, wRo K hRo sRo] (As := [.int (1 : Int32)]) (rest := []) ⟨hx, hb, hml, hown, hts⟩ (c_X10_refuse l D K F hMn rMn0 (hRo 99) rMn3 rMn4 rMn5 (hDr 99) rMn7 rMn8 rMn9 (hFr 99) H.size sMn (1 : Int32) o5 go5) (cwV 1 hts (gcV_X10_refuse (mB7 _ (List.mem_of_getElem? (i := 18) rfl))) rfl rfl rfl hdV_X10_refuse ⟨Nat.le_of_ble_eq_true rfl, Nat.le_of_ble_eq_true rfl⟩) hK hP hD hS hA [0] (fl6 _ _ _ _ _ _) rfl (by decide) (fl1 _) (fl1 _) rfl rfl (fl6 _ _ _ _ _ _) (va_recv hK hP (ci := 9) (q0 := 0) rfl (rwl (rwl (rwl (rwl (rwl o_Mn)))))) rfl hl.1 rfl (Nat.le_of_ble_eq_true rfl) dX10_sure_12 ⟨Nat.zero_le _, Nat.zero_le _⟩ (fun H locs hP hD hS => ?_)
      have hP : va_P D vwCl (wMn K hMn rMn0 (hRo 99) rMn3 rMn4 rMn5 (hDr 99) rMn7 rMn8 rMn9 (hFr 99) o5.2 ++ wDr K hDr rDr1 aDc aDd sDr ++ wAI K aDc nDc fDc ++ wAI K aDd nDd fDd ++ wFr K hFr sFr ++ wRo K hRo sRo) H := hP
      have hD : va_D A (wMn K hMn rMn0 (hRo 99) rMn3 rMn4 rMn5 (hDr 99) rMn7 rMn8 rMn9 (hFr 99) o5.2 ++ wDr K hDr rDr1 aDc aDd sDr ++ wAI K aDc nDc fDc ++ wAI K aDd nDd fDd ++ wFr K hFr sFr ++ wRo K hRo sRo) := hD
      refine lv_i2l (v := o5.1.toInt64) hx hb dX10_sure_15 rfl ?_
      have e9 := Option.some.inj hf
      rw [hQ]
      exact W.lret (v := o5.1.toInt64) hx hb hr (fun t ht hW => ⟨⟨o5.1.toInt64, (0, o5.2, sDr, fDc, fDd, sFr), rfl, ⟨pr1 e9, pr2 e9⟩, ⟨by rw [ht]; exact hP, va_K.moved hW.alike hK, hD⟩⟩, hS.F ht⟩) hS.2.2 dX10_sure_16
  rw [hHe] at hgo
  exact hgo

theorem gcV_X5_least {T0 : Cond} {own : String} {i : Nat} (h : Cond.methodLink own i yX5_least ∈ wsL_law) : GoodIn (T0 :: wsL_law) (wsV own i RX5 yX5_least wz_X5_least) := gV h (mB48 _ (List.mem_of_getElem? (i := 17) rfl)) (mB48 _ (List.mem_of_getElem? (i := 18) rfl)) (mB2 _ (List.mem_of_getElem? (i := 10) rfl)) (mB48 _ (List.mem_of_getElem? (i := 19) rfl))
theorem hdV_X5_least : yX5_least.cls = RX5 ∧ yX5_least.cls ≠ "java/lang/invoke/MethodHandle" ∧ yX5_least.cls ≠ "java/lang/invoke/VarHandle" ∧ (parseMethodDescriptor yX5_least.desc).map (fun d => d.parameters.length) = some 2 := by decide +kernel
def wz_X10_net : List Cond := .code yX10_net cX10_net 2 (some .int) :: wsL_law
abbrev r_X10_net : Room := { frames := 4, cells := 0, slots := 0, locals := 100 }
set_option maxHeartbeats 4000000 in
set_option maxRecDepth 100000 in
theorem c_X10_net (l : Launch) (D : va_G) (K : Nat → ClassId) (F : Nat) (hMn : Nat → Nat) (rMn0 : Nat) (rMn3 : Nat) (rMn4 : Nat) (rMn5 : Nat) (rMn6 : Nat) (rMn8 : Nat) (rMn9 : Nat) (rMn10 : Nat) (hNe : Nat → Nat) (hNc : Nat → Nat) (hRo : Nat → Nat) (sz : Nat) (sMn : MS) (sNe : MS) (sNc : MS) (sRo : MS) (p1 : Int32) (res : Int32 × MS × MS × MS) (hf : f_X10_net F sRo p1 sMn sNe sNc = some res) : Met l yX10_net wz_X10_net r_X10_net (va_Pc [.ref (hMn 99), .int p1] (PW D K (wMn K hMn rMn0 (hRo 99) rMn3 rMn4 rMn5 rMn6 (hNe 99) rMn8 rMn9 rMn10 sMn ++ wNe K hNe hNc sNe ++ wNc K hNc sNc ++ wRo K hRo sRo) sz)) (va_Qi (fun r u => r = res.1 ∧ u = res.2) (fun u t => BW D K (va_A (wMn K hMn rMn0 (hRo 99) rMn3 rMn4 rMn5 rMn6 (hNe 99) rMn8 rMn9 rMn10 sMn ++ wNe K hNe hNc sNe ++ wNc K hNc sNc ++ wRo K hRo sRo) sz) (wMn K hMn rMn0 (hRo 99) rMn3 rMn4 rMn5 rMn6 (hNe 99) rMn8 rMn9 rMn10 u.1 ++ wNe K hNe hNc u.2.1 ++ wNc K hNc u.2.2 ++ wRo K hRo sRo) t) (va_A (wMn K hMn rMn0 (hRo 99) rMn3 rMn4 rMn5 rMn6 (hNe 99) rMn8 rMn9 rMn10 sMn ++ wNe K hNe hNc sNe ++ wNc K hNc sNc ++ wRo K hRo sRo) sz)) 0 0 (va_A (wMn K hMn rMn0 (hRo 99) rMn3 rMn4 rMn5 rMn6 (hNe 99) rMn8 rMn9 rMn10 sMn ++ wNe K hNe hNc sNe ++ wNc K hNc sNc ++ wRo K hRo sRo) sz) := by
  refine Met.ofW (cc := cX10_net) (maxL := 2) (ret := (some .int)) (by decide) rfl ?_
  intro p e s m args below meth c s₁ B hml hv
  obtain ⟨hargs, hsz, hP, hK, hD0⟩ := hv
  have hx := B.exec
  have hb := B.bytes
  have hr := B.returns
  have hts := atoms_spec (ws := wz_X10_net) B.pre
  have htl : ∀ w ∈ wsL_law, w.before args s = true := fun w h => hts w (List.mem_cons_of_mem _ h)
  have hown : s.vm.findClass RX10 = some m.cls := findClass_of_methodNamed B.named
  have hlocks := B.notSynchronized
  subst hsz
  have hD := hD0.self (sz := s.heap.size)
  generalize hAe : va_A (wMn K hMn rMn0 (hRo 99) rMn3 rMn4 rMn5 rMn6 (hNe 99) rMn8 rMn9 rMn10 sMn ++ wNe K hNe hNc sNe ++ wNc K hNc sNc ++ wRo K hRo sRo) s.heap.size = A at hD ⊢
  have hA : ∀ q : Nat, s.heap.size ≤ q → A q := fun q h => by rw [← hAe]; exact Or.inr h
  have hS : va_S A s.heap s.heap [] := va_S.rf
  have iX10 : ∀ w ∈ wsX100, w ∈ wz_X10_net := fun w h => List.mem_cons_of_mem _ (inlX10 w h)
  suffices hgo : ∀ Q : State → Prop, Q = MQ below (va_Qi (fun r u => r = res.1 ∧ u = res.2) (fun u t => BW D K A (wMn K hMn rMn0 (hRo 99) rMn3 rMn4 rMn5 rMn6 (hNe 99) rMn8 rMn9 rMn10 u.1 ++ wNe K hNe hNc u.2.1 ++ wNc K hNc u.2.2 ++ wRo K hRo sRo) t) A) args s 0 0 A → W p l e (headSpec wz_X10_net r_X10_net).room s m args below meth c s.heap [] 0 0 Q (entryFrame m args 2) from hgo _ rfl
  intro Q hQ
  have hen : entryFrame m args 2 = entryFrame m (([.ref (hMn 99), .int p1] : List Value).toArray) 2 := by rw [hargs]
  have hl := lv_entry ([.ref (hMn 99), .int p1]) (n := 2) (Nat.le_of_ble_eq_true rfl)
  rw [hen, lg_entry_eq]
  generalize (lg_sl ([.ref (hMn 99), .int p1]) ++ List.replicate (2 - (lg_sl ([.ref (hMn 99), .int p1])).length) Slot.unset).toArray = ls at hl ⊢
  have hl : lv_has ls 2 [(0, .ref (hMn 99)), (1, .int p1)] := hl
  unfold f_X10_net at hf
  obtain ⟨H, hHe⟩ : ∃ z, z = s.heap := ⟨_, rfl⟩
  obtain ⟨locs, hLe⟩ : ∃ z : List Loc, z = [] := ⟨_, rfl⟩
  rw [← hLe]
  have hS : va_S A s.heap H locs := by rw [hHe, hLe]; exact hS
  have hP : va_P D vwCl (wMn K hMn rMn0 (hRo 99) rMn3 rMn4 rMn5 rMn6 (hNe 99) rMn8 rMn9 rMn10 sMn ++ wNe K hNe hNc sNe ++ wNc K hNc sNc ++ wRo K hRo sRo) H := by rw [hHe]; exact hP
  have hgo : W p l e (headSpec wz_X10_net r_X10_net).room s m args below meth c H locs 0 0 Q (F0 m 0 ls []) := by
    refine lv_aload_n hx hb dX10_net_0 rfl (lv_at hl 0 rfl) ?_
    refine va_get (D := D) (ci := 9) (v := .ref (hRo 99)) (C := RX10) (T := TX10) (N := 14) hx hb hts iX10 hown hK hP 0 (rwl (rwl (rwl o_Mn))) rfl 2 (by decide) (htl _ (mB1 _ (List.mem_of_getElem? (i := 18) rfl))) (fun _ h9 => h9) rfl dX10_net_1 ?_
    obtain ⟨o1, go1, hf⟩ := bd_s hf
    refine ro_Vi (As := []) (rest := []) ⟨hx, hb, hml, hown, hts⟩ (c_X9_isTold l D K F hRo sRo o1 go1) (cwV 0 hts (gcV_X9_isTold (mB30 _ (List.mem_of_getElem? (i := 0) rfl))) rfl rfl rfl hdV_X9_isTold ⟨Nat.le_of_ble_eq_true rfl, Nat.le_of_ble_eq_true rfl⟩) hK hP hS (va_PL (cs := [wMn K hMn rMn0 (hRo 99) rMn3 rMn4 rMn5 rMn6 (hNe 99) rMn8 rMn9 rMn10 sMn, wNe K hNe hNc sNe, wNc K hNc sNc, wRo K hRo sRo]) (cc := [wRo K hRo sRo]) hP (fl4 _ _ _ _) [3] rfl (fl1 _)) (va_recv hK hP (ci := 8) (q0 := (((1 + 4) + 9) + 0)) rfl (rwr (lnA (lnA ln_Mn ln_Ne) ln_Nc) o_Ro)) rfl hl.1 rfl (Nat.le_of_ble_eq_true rfl) dX10_net_4 ⟨Nat.zero_le _, Nat.zero_le _⟩ (fun H locs hP hS => ?_)
    refine lv_if_ne (tgt := 16) hx hb dX10_net_7 (by decide) (fun c2 => ?_) (fun c2 => ?_)
    · have hf := it_f hf c2
      refine lv_aload_n hx hb dX10_net_16 rfl (lv_at hl 0 rfl) ?_
      refine lv_aload_n hx hb dX10_net_17 rfl (lv_at hl 0 rfl) ?_
      refine va_get (D := D) (ci := 9) (v := .ref (hNe 99)) (C := RX10) (T := TX10) (N := 14) hx hb hts iX10 hown hK hP 0 (rwl (rwl (rwl o_Mn))) rfl 7 (by decide) (htl _ (mB2 _ (List.mem_of_getElem? (i := 11) rfl))) (fun _ h9 => h9) rfl dX10_net_18 ?_
      refine lv_aload_n hx hb dX10_net_21 rfl (lv_at hl 0 rfl) ?_
      refine va_get (D := D) (ci := 9) (v := .ref (hRo 99)) (C := RX10) (T := TX10) (N := 14) hx hb hts iX10 hown hK hP 0 (rwl (rwl (rwl o_Mn))) rfl 2 (by decide) (htl _ (mB1 _ (List.mem_of_getElem? (i := 18) rfl))) (fun _ h9 => h9) rfl dX10_net_22 ?_
      refine lv_iload_n hx hb dX10_net_25 rfl (lv_at hl 1 rfl) ?_
      obtain ⟨o3, go3, hf⟩ := bd_s hf
      refine rk_Vi (wn := wMn K hMn rMn0 (hRo 99) rMn3 rMn4 rMn5 rMn6 (hNe 99) rMn8 rMn9 rMn10 sMn ++ wNe K hNe hNc o3.2.1 ++ wNc K hNc o3.2.2 ++ wRo K hRo sRo) [wMn K hMn rMn0 (hRo 99) rMn3 rMn4 rMn5 rMn6 (hNe 99) rMn8 rMn9 rMn10 sMn, wNe K hNe hNc sNe, wNc K hNc sNc, wRo K hRo sRo] [wNe K hNe hNc sNe, wNc K hNc sNc, wRo K hRo sRo] [wNe K hNe hNc o3.2.1, wNc K hNc o3.2.2, wRo K hRo sRo] [wMn K hMn rMn0 (hRo 99) rMn3 rMn4 rMn5 rMn6 (hNe 99) rMn8 rMn9 rMn10 sMn, wNe K hNe hNc o3.2.1, wNc K hNc o3.2.2, wRo K hRo sRo] (As := [.ref (hRo 99), .int p1]) (rest := [.ref (hMn 99)]) ⟨hx, hb, hml, hown, hts⟩ (c_X5_least l D K F hNe hNc hRo H.size sNe sNc sRo p1 o3 go3) (cwV 2 hts (gcV_X5_least (mB48 _ (List.mem_of_getElem? (i := 16) rfl))) rfl rfl rfl hdV_X5_least ⟨Nat.le_of_ble_eq_true rfl, Nat.le_of_ble_eq_true rfl⟩) hK hP hD hS hA [1, 2, 3] (fl4 _ _ _ _) rfl (by decide) (fl3 _ _ _) (fl3 _ _ _) rfl rfl (fl4 _ _ _ _) (va_recv hK hP (ci := 4) (q0 := (1 + 0)) rfl (rwl (rwl (rwr ln_Mn o_Ne)))) rfl hl.1 rfl (Nat.le_of_ble_eq_true rfl) dX10_net_26 ⟨Nat.zero_le _, Nat.zero_le _⟩ (fun H locs hP hD hS => ?_)
      have hP : va_P D vwCl (wMn K hMn rMn0 (hRo 99) rMn3 rMn4 rMn5 rMn6 (hNe 99) rMn8 rMn9 rMn10 sMn ++ wNe K hNe hNc o3.2.1 ++ wNc K hNc o3.2.2 ++ wRo K hRo sRo) H := hP
      have hD : va_D A (wMn K hMn rMn0 (hRo 99) rMn3 rMn4 rMn5 rMn6 (hNe 99) rMn8 rMn9 rMn10 sMn ++ wNe K hNe hNc o3.2.1 ++ wNc K hNc o3.2.2 ++ wRo K hRo sRo) := hD
      obtain ⟨o4, go4, hf⟩ := bd_s hf
      refine rk_Vi (wn := wMn K hMn rMn0 (hRo 99) rMn3 rMn4 rMn5 rMn6 (hNe 99) rMn8 rMn9 rMn10 o4.2 ++ wNe K hNe hNc o3.2.1 ++ wNc K hNc o3.2.2 ++ wRo K hRo sRo) [wMn K hMn rMn0 (hRo 99) rMn3 rMn4 rMn5 rMn6 (hNe 99) rMn8 rMn9 rMn10 sMn, wNe K hNe hNc o3.2.1, wNc K hNc o3.2.2, wRo K hRo sRo] [wMn K hMn rMn0 (hRo 99) rMn3 rMn4 rMn5 rMn6 (hNe 99) rMn8 rMn9 rMn10 sMn] [wMn K hMn rMn0 (hRo 99) rMn3 rMn4 rMn5 rMn6 (hNe 99) rMn8 rMn9 rMn10 o4.2] [wMn K hMn rMn0 (hRo 99) rMn3 rMn4 rMn5 rMn6 (hNe 99) rMn8 rMn9 rMn10 o4.2, wNe K hNe hNc o3.2.1, wNc K hNc o3.2.2, wRo K hRo sRo] (As := [.int o3.1]) (rest := []) ⟨hx, hb, hml, hown, hts⟩ (c_X10_accept l D K F hMn rMn0 (hRo 99) rMn3 rMn4 rMn5 rMn6 (hNe 99) rMn8 rMn9 rMn10 H.size sMn o3.1 o4 go4) (cwV 1 hts (gcV_X10_accept (mB17 _ (List.mem_of_getElem? (i := 14) rfl))) rfl rfl rfl hdV_X10_accept ⟨Nat.le_of_ble_eq_true rfl, Nat.le_of_ble_eq_true rfl⟩) hK hP hD hS hA [0] (fl4 _ _ _ _) rfl (by decide) (fl1 _) (fl1 _) rfl rfl (fl4 _ _ _ _) (va_recv hK hP (ci := 9) (q0 := 0) rfl (rwl (rwl (rwl o_Mn)))) rfl hl.1 rfl (Nat.le_of_ble_eq_true rfl) dX10_net_29 ⟨Nat.zero_le _, Nat.zero_le _⟩ (fun H locs hP hD hS => ?_)
      have hP : va_P D vwCl (wMn K hMn rMn0 (hRo 99) rMn3 rMn4 rMn5 rMn6 (hNe 99) rMn8 rMn9 rMn10 o4.2 ++ wNe K hNe hNc o3.2.1 ++ wNc K hNc o3.2.2 ++ wRo K hRo sRo) H := hP
      have hD : va_D A (wMn K hMn rMn0 (hRo 99) rMn3 rMn4 rMn5 rMn6 (hNe 99) rMn8 rMn9 rMn10 o4.2 ++ wNe K hNe hNc o3.2.1 ++ wNc K hNc o3.2.2 ++ wRo K hRo sRo) := hD
      have e9 := Option.some.inj hf
      rw [hQ]
      exact W.iret (v := o4.1) hx hb hr (fun t ht hW => ⟨⟨o4.1, (o4.2, o3.2.1, o3.2.2), rfl, ⟨pr1 e9, pr2 e9⟩, ⟨by rw [ht]; exact hP, va_K.moved hW.alike hK, hD⟩⟩, hS.F ht⟩) hS.2.2 dX10_net_32
    · have hf := it_t hf c2
      refine lv_aload_n hx hb dX10_net_10 rfl (lv_at hl 0 rfl) ?_
      refine lv_iconst (v := (1 : Int32)) hx hb dX10_net_11 (by decide) ?_
      obtain ⟨o5, go5, hf⟩ := bd_s hf
      refine rk_Vi (wn := wMn K hMn rMn0 (hRo 99) rMn3 rMn4 rMn5 rMn6 (hNe 99) rMn8 rMn9 rMn10 o5.2 ++ wNe K hNe hNc sNe ++ wNc K hNc sNc ++ wRo K hRo sRo) [wMn K hMn rMn0 (hRo 99) rMn3 rMn4 rMn5 rMn6 (hNe 99) rMn8 rMn9 rMn10 sMn, wNe K hNe hNc sNe, wNc K hNc sNc, wRo K hRo sRo] [wMn K hMn rMn0 (hRo 99) rMn3 rMn4 rMn5 rMn6 (hNe 99) rMn8 rMn9 rMn10 sMn] [wMn K hMn rMn0 (hRo 99) rMn3 rMn4 rMn5 rMn6 (hNe 99) rMn8 rMn9 rMn10 o5.2] [wMn K hMn rMn0 (hRo 99) rMn3 rMn4 rMn5 rMn6 (hNe 99) rMn8 rMn9 rMn10 o5.2, wNe K hNe hNc sNe, wNc K hNc sNc, wRo K hRo sRo] (As := [.int (1 : Int32)]) (rest := []) ⟨hx, hb, hml, hown, hts⟩ (c_X10_refuse l D K F hMn rMn0 (hRo 99) rMn3 rMn4 rMn5 rMn6 (hNe 99) rMn8 rMn9 rMn10 H.size sMn (1 : Int32) o5 go5) (cwV 1 hts (gcV_X10_refuse (mB7 _ (List.mem_of_getElem? (i := 18) rfl))) rfl rfl rfl hdV_X10_refuse ⟨Nat.le_of_ble_eq_true rfl, Nat.le_of_ble_eq_true rfl⟩) hK hP hD hS hA [0] (fl4 _ _ _ _) rfl (by decide) (fl1 _) (fl1 _) rfl rfl (fl4 _ _ _ _) (va_recv hK hP (ci := 9) (q0 := 0) rfl (rwl (rwl (rwl o_Mn)))) rfl hl.1 rfl (Nat.le_of_ble_eq_true rfl) dX10_net_12 ⟨Nat.zero_le _, Nat.zero_le _⟩ (fun H locs hP hD hS => ?_)
      have hP : va_P D vwCl (wMn K hMn rMn0 (hRo 99) rMn3 rMn4 rMn5 rMn6 (hNe 99) rMn8 rMn9 rMn10 o5.2 ++ wNe K hNe hNc sNe ++ wNc K hNc sNc ++ wRo K hRo sRo) H := hP
      have hD : va_D A (wMn K hMn rMn0 (hRo 99) rMn3 rMn4 rMn5 rMn6 (hNe 99) rMn8 rMn9 rMn10 o5.2 ++ wNe K hNe hNc sNe ++ wNc K hNc sNc ++ wRo K hRo sRo) := hD
      have e9 := Option.some.inj hf
      rw [hQ]
      exact W.iret (v := o5.1) hx hb hr (fun t ht hW => ⟨⟨o5.1, (o5.2, sNe, sNc), rfl, ⟨pr1 e9, pr2 e9⟩, ⟨by rw [ht]; exact hP, va_K.moved hW.alike hK, hD⟩⟩, hS.F ht⟩) hS.2.2 dX10_net_15
  rw [hHe] at hgo
  exact hgo

theorem gcV_X5_mostPints {T0 : Cond} {own : String} {i : Nat} (h : Cond.methodLink own i yX5_mostPints ∈ wsL_law) : GoodIn (T0 :: wsL_law) (wsV own i RX5 yX5_mostPints wz_X5_mostPints) := gV h (mB51 _ (List.mem_of_getElem? (i := 3) rfl)) (mB51 _ (List.mem_of_getElem? (i := 4) rfl)) (mB2 _ (List.mem_of_getElem? (i := 10) rfl)) (mB51 _ (List.mem_of_getElem? (i := 5) rfl))
theorem hdV_X5_mostPints : yX5_mostPints.cls = RX5 ∧ yX5_mostPints.cls ≠ "java/lang/invoke/MethodHandle" ∧ yX5_mostPints.cls ≠ "java/lang/invoke/VarHandle" ∧ (parseMethodDescriptor yX5_mostPints.desc).map (fun d => d.parameters.length) = some 2 := by decide +kernel
def wz_X10_most : List Cond := .code yX10_most cX10_most 2 (some .int) :: wsL_law
abbrev r_X10_most : Room := { frames := 4, cells := 0, slots := 0, locals := 94 }
set_option maxHeartbeats 4000000 in
set_option maxRecDepth 100000 in
theorem c_X10_most (l : Launch) (D : va_G) (K : Nat → ClassId) (F : Nat) (hMn : Nat → Nat) (rMn0 : Nat) (rMn3 : Nat) (rMn4 : Nat) (rMn5 : Nat) (rMn6 : Nat) (rMn8 : Nat) (rMn9 : Nat) (rMn10 : Nat) (hNe : Nat → Nat) (gNe0 : Nat → Nat) (hRo : Nat → Nat) (sz : Nat) (sMn : MS) (sNe : MS) (sRo : MS) (p1 : Int32) (res : Int32 × MS × MS) (hf : f_X10_most F sRo p1 sMn sNe = some res) : Met l yX10_most wz_X10_most r_X10_most (va_Pc [.ref (hMn 99), .int p1] (PW D K (wMn K hMn rMn0 (hRo 99) rMn3 rMn4 rMn5 rMn6 (hNe 99) rMn8 rMn9 rMn10 sMn ++ wNe K hNe gNe0 sNe ++ wRo K hRo sRo) sz)) (va_Qi (fun r u => r = res.1 ∧ u = res.2) (fun u t => BW D K (va_A (wMn K hMn rMn0 (hRo 99) rMn3 rMn4 rMn5 rMn6 (hNe 99) rMn8 rMn9 rMn10 sMn ++ wNe K hNe gNe0 sNe ++ wRo K hRo sRo) sz) (wMn K hMn rMn0 (hRo 99) rMn3 rMn4 rMn5 rMn6 (hNe 99) rMn8 rMn9 rMn10 u.1 ++ wNe K hNe gNe0 u.2 ++ wRo K hRo sRo) t) (va_A (wMn K hMn rMn0 (hRo 99) rMn3 rMn4 rMn5 rMn6 (hNe 99) rMn8 rMn9 rMn10 sMn ++ wNe K hNe gNe0 sNe ++ wRo K hRo sRo) sz)) 0 0 (va_A (wMn K hMn rMn0 (hRo 99) rMn3 rMn4 rMn5 rMn6 (hNe 99) rMn8 rMn9 rMn10 sMn ++ wNe K hNe gNe0 sNe ++ wRo K hRo sRo) sz) := by
  refine Met.ofW (cc := cX10_most) (maxL := 2) (ret := (some .int)) (by decide) rfl ?_
  intro p e s m args below meth c s₁ B hml hv
  obtain ⟨hargs, hsz, hP, hK, hD0⟩ := hv
  have hx := B.exec
  have hb := B.bytes
  have hr := B.returns
  have hts := atoms_spec (ws := wz_X10_most) B.pre
  have htl : ∀ w ∈ wsL_law, w.before args s = true := fun w h => hts w (List.mem_cons_of_mem _ h)
  have hown : s.vm.findClass RX10 = some m.cls := findClass_of_methodNamed B.named
  have hlocks := B.notSynchronized
  subst hsz
  have hD := hD0.self (sz := s.heap.size)
  generalize hAe : va_A (wMn K hMn rMn0 (hRo 99) rMn3 rMn4 rMn5 rMn6 (hNe 99) rMn8 rMn9 rMn10 sMn ++ wNe K hNe gNe0 sNe ++ wRo K hRo sRo) s.heap.size = A at hD ⊢
  have hA : ∀ q : Nat, s.heap.size ≤ q → A q := fun q h => by rw [← hAe]; exact Or.inr h
  have hS : va_S A s.heap s.heap [] := va_S.rf
  have iX10 : ∀ w ∈ wsX100, w ∈ wz_X10_most := fun w h => List.mem_cons_of_mem _ (inlX10 w h)
  suffices hgo : ∀ Q : State → Prop, Q = MQ below (va_Qi (fun r u => r = res.1 ∧ u = res.2) (fun u t => BW D K A (wMn K hMn rMn0 (hRo 99) rMn3 rMn4 rMn5 rMn6 (hNe 99) rMn8 rMn9 rMn10 u.1 ++ wNe K hNe gNe0 u.2 ++ wRo K hRo sRo) t) A) args s 0 0 A → W p l e (headSpec wz_X10_most r_X10_most).room s m args below meth c s.heap [] 0 0 Q (entryFrame m args 2) from hgo _ rfl
  intro Q hQ
  have hen : entryFrame m args 2 = entryFrame m (([.ref (hMn 99), .int p1] : List Value).toArray) 2 := by rw [hargs]
  have hl := lv_entry ([.ref (hMn 99), .int p1]) (n := 2) (Nat.le_of_ble_eq_true rfl)
  rw [hen, lg_entry_eq]
  generalize (lg_sl ([.ref (hMn 99), .int p1]) ++ List.replicate (2 - (lg_sl ([.ref (hMn 99), .int p1])).length) Slot.unset).toArray = ls at hl ⊢
  have hl : lv_has ls 2 [(0, .ref (hMn 99)), (1, .int p1)] := hl
  unfold f_X10_most at hf
  obtain ⟨H, hHe⟩ : ∃ z, z = s.heap := ⟨_, rfl⟩
  obtain ⟨locs, hLe⟩ : ∃ z : List Loc, z = [] := ⟨_, rfl⟩
  rw [← hLe]
  have hS : va_S A s.heap H locs := by rw [hHe, hLe]; exact hS
  have hP : va_P D vwCl (wMn K hMn rMn0 (hRo 99) rMn3 rMn4 rMn5 rMn6 (hNe 99) rMn8 rMn9 rMn10 sMn ++ wNe K hNe gNe0 sNe ++ wRo K hRo sRo) H := by rw [hHe]; exact hP
  have hgo : W p l e (headSpec wz_X10_most r_X10_most).room s m args below meth c H locs 0 0 Q (F0 m 0 ls []) := by
    refine lv_aload_n hx hb dX10_most_0 rfl (lv_at hl 0 rfl) ?_
    refine va_get (D := D) (ci := 9) (v := .ref (hRo 99)) (C := RX10) (T := TX10) (N := 14) hx hb hts iX10 hown hK hP 0 (rwl (rwl o_Mn)) rfl 2 (by decide) (htl _ (mB1 _ (List.mem_of_getElem? (i := 18) rfl))) (fun _ h9 => h9) rfl dX10_most_1 ?_
    refine lv_iload_n hx hb dX10_most_4 rfl (lv_at hl 1 rfl) ?_
    obtain ⟨o1, go1, hf⟩ := bd_s hf
    refine ro_Vi (As := [.int p1]) (rest := []) ⟨hx, hb, hml, hown, hts⟩ (c_X9_isPlace l D K F hRo sRo p1 o1 go1) (cwV 1 hts (gcV_X9_isPlace (mB24 _ (List.mem_of_getElem? (i := 17) rfl))) rfl rfl rfl hdV_X9_isPlace ⟨Nat.le_of_ble_eq_true rfl, Nat.le_of_ble_eq_true rfl⟩) hK hP hS (va_PL (cs := [wMn K hMn rMn0 (hRo 99) rMn3 rMn4 rMn5 rMn6 (hNe 99) rMn8 rMn9 rMn10 sMn, wNe K hNe gNe0 sNe, wRo K hRo sRo]) (cc := [wRo K hRo sRo]) hP (fl3 _ _ _) [2] rfl (fl1 _)) (va_recv hK hP (ci := 8) (q0 := ((1 + 4) + 0)) rfl (rwr (lnA ln_Mn ln_Ne) o_Ro)) rfl hl.1 rfl (Nat.le_of_ble_eq_true rfl) dX10_most_5 ⟨Nat.zero_le _, Nat.zero_le _⟩ (fun H locs hP hS => ?_)
    refine lv_if_ne (tgt := 17) hx hb dX10_most_8 (by decide) (fun c2 => ?_) (fun c2 => ?_)
    · have hf := it_f hf c2
      refine lv_aload_n hx hb dX10_most_17 rfl (lv_at hl 0 rfl) ?_
      refine lv_aload_n hx hb dX10_most_18 rfl (lv_at hl 0 rfl) ?_
      refine va_get (D := D) (ci := 9) (v := .ref (hNe 99)) (C := RX10) (T := TX10) (N := 14) hx hb hts iX10 hown hK hP 0 (rwl (rwl o_Mn)) rfl 7 (by decide) (htl _ (mB2 _ (List.mem_of_getElem? (i := 11) rfl))) (fun _ h9 => h9) rfl dX10_most_19 ?_
      refine lv_aload_n hx hb dX10_most_22 rfl (lv_at hl 0 rfl) ?_
      refine va_get (D := D) (ci := 9) (v := .ref (hRo 99)) (C := RX10) (T := TX10) (N := 14) hx hb hts iX10 hown hK hP 0 (rwl (rwl o_Mn)) rfl 2 (by decide) (htl _ (mB1 _ (List.mem_of_getElem? (i := 18) rfl))) (fun _ h9 => h9) rfl dX10_most_23 ?_
      refine lv_iload_n hx hb dX10_most_26 rfl (lv_at hl 1 rfl) ?_
      obtain ⟨o3, go3, hf⟩ := bd_s hf
      refine rk_Vi (wn := wMn K hMn rMn0 (hRo 99) rMn3 rMn4 rMn5 rMn6 (hNe 99) rMn8 rMn9 rMn10 sMn ++ wNe K hNe gNe0 o3.2 ++ wRo K hRo sRo) [wMn K hMn rMn0 (hRo 99) rMn3 rMn4 rMn5 rMn6 (hNe 99) rMn8 rMn9 rMn10 sMn, wNe K hNe gNe0 sNe, wRo K hRo sRo] [wNe K hNe gNe0 sNe, wRo K hRo sRo] [wNe K hNe gNe0 o3.2, wRo K hRo sRo] [wMn K hMn rMn0 (hRo 99) rMn3 rMn4 rMn5 rMn6 (hNe 99) rMn8 rMn9 rMn10 sMn, wNe K hNe gNe0 o3.2, wRo K hRo sRo] (As := [.ref (hRo 99), .int p1]) (rest := [.ref (hMn 99)]) ⟨hx, hb, hml, hown, hts⟩ (c_X5_mostPints l D K F hNe gNe0 hRo H.size sNe sRo p1 o3 go3) (cwV 2 hts (gcV_X5_mostPints (mB51 _ (List.mem_of_getElem? (i := 2) rfl))) rfl rfl rfl hdV_X5_mostPints ⟨Nat.le_of_ble_eq_true rfl, Nat.le_of_ble_eq_true rfl⟩) hK hP hD hS hA [1, 2] (fl3 _ _ _) rfl (by decide) (fl2 _ _) (fl2 _ _) rfl rfl (fl3 _ _ _) (va_recv hK hP (ci := 4) (q0 := (1 + 0)) rfl (rwl (rwr ln_Mn o_Ne))) rfl hl.1 rfl (Nat.le_of_ble_eq_true rfl) dX10_most_27 ⟨Nat.zero_le _, Nat.zero_le _⟩ (fun H locs hP hD hS => ?_)
      have hP : va_P D vwCl (wMn K hMn rMn0 (hRo 99) rMn3 rMn4 rMn5 rMn6 (hNe 99) rMn8 rMn9 rMn10 sMn ++ wNe K hNe gNe0 o3.2 ++ wRo K hRo sRo) H := hP
      have hD : va_D A (wMn K hMn rMn0 (hRo 99) rMn3 rMn4 rMn5 rMn6 (hNe 99) rMn8 rMn9 rMn10 sMn ++ wNe K hNe gNe0 o3.2 ++ wRo K hRo sRo) := hD
      obtain ⟨o4, go4, hf⟩ := bd_s hf
      refine rk_Vi (wn := wMn K hMn rMn0 (hRo 99) rMn3 rMn4 rMn5 rMn6 (hNe 99) rMn8 rMn9 rMn10 o4.2 ++ wNe K hNe gNe0 o3.2 ++ wRo K hRo sRo) [wMn K hMn rMn0 (hRo 99) rMn3 rMn4 rMn5 rMn6 (hNe 99) rMn8 rMn9 rMn10 sMn, wNe K hNe gNe0 o3.2, wRo K hRo sRo] [wMn K hMn rMn0 (hRo 99) rMn3 rMn4 rMn5 rMn6 (hNe 99) rMn8 rMn9 rMn10 sMn] [wMn K hMn rMn0 (hRo 99) rMn3 rMn4 rMn5 rMn6 (hNe 99) rMn8 rMn9 rMn10 o4.2] [wMn K hMn rMn0 (hRo 99) rMn3 rMn4 rMn5 rMn6 (hNe 99) rMn8 rMn9 rMn10 o4.2, wNe K hNe gNe0 o3.2, wRo K hRo sRo] (As := [.int o3.1]) (rest := []) ⟨hx, hb, hml, hown, hts⟩ (c_X10_accept l D K F hMn rMn0 (hRo 99) rMn3 rMn4 rMn5 rMn6 (hNe 99) rMn8 rMn9 rMn10 H.size sMn o3.1 o4 go4) (cwV 1 hts (gcV_X10_accept (mB17 _ (List.mem_of_getElem? (i := 14) rfl))) rfl rfl rfl hdV_X10_accept ⟨Nat.le_of_ble_eq_true rfl, Nat.le_of_ble_eq_true rfl⟩) hK hP hD hS hA [0] (fl3 _ _ _) rfl (by decide) (fl1 _) (fl1 _) rfl rfl (fl3 _ _ _) (va_recv hK hP (ci := 9) (q0 := 0) rfl (rwl (rwl o_Mn))) rfl hl.1 rfl (Nat.le_of_ble_eq_true rfl) dX10_most_30 ⟨Nat.zero_le _, Nat.zero_le _⟩ (fun H locs hP hD hS => ?_)
      have hP : va_P D vwCl (wMn K hMn rMn0 (hRo 99) rMn3 rMn4 rMn5 rMn6 (hNe 99) rMn8 rMn9 rMn10 o4.2 ++ wNe K hNe gNe0 o3.2 ++ wRo K hRo sRo) H := hP
      have hD : va_D A (wMn K hMn rMn0 (hRo 99) rMn3 rMn4 rMn5 rMn6 (hNe 99) rMn8 rMn9 rMn10 o4.2 ++ wNe K hNe gNe0 o3.2 ++ wRo K hRo sRo) := hD
      have e9 := Option.some.inj hf
      rw [hQ]
      exact W.iret (v := o4.1) hx hb hr (fun t ht hW => ⟨⟨o4.1, (o4.2, o3.2), rfl, ⟨pr1 e9, pr2 e9⟩, ⟨by rw [ht]; exact hP, va_K.moved hW.alike hK, hD⟩⟩, hS.F ht⟩) hS.2.2 dX10_most_33
    · have hf := it_t hf c2
      refine lv_aload_n hx hb dX10_most_11 rfl (lv_at hl 0 rfl) ?_
      refine lv_iconst (v := (1 : Int32)) hx hb dX10_most_12 (by decide) ?_
      obtain ⟨o5, go5, hf⟩ := bd_s hf
      refine rk_Vi (wn := wMn K hMn rMn0 (hRo 99) rMn3 rMn4 rMn5 rMn6 (hNe 99) rMn8 rMn9 rMn10 o5.2 ++ wNe K hNe gNe0 sNe ++ wRo K hRo sRo) [wMn K hMn rMn0 (hRo 99) rMn3 rMn4 rMn5 rMn6 (hNe 99) rMn8 rMn9 rMn10 sMn, wNe K hNe gNe0 sNe, wRo K hRo sRo] [wMn K hMn rMn0 (hRo 99) rMn3 rMn4 rMn5 rMn6 (hNe 99) rMn8 rMn9 rMn10 sMn] [wMn K hMn rMn0 (hRo 99) rMn3 rMn4 rMn5 rMn6 (hNe 99) rMn8 rMn9 rMn10 o5.2] [wMn K hMn rMn0 (hRo 99) rMn3 rMn4 rMn5 rMn6 (hNe 99) rMn8 rMn9 rMn10 o5.2, wNe K hNe gNe0 sNe, wRo K hRo sRo] (As := [.int (1 : Int32)]) (rest := []) ⟨hx, hb, hml, hown, hts⟩ (c_X10_refuse l D K F hMn rMn0 (hRo 99) rMn3 rMn4 rMn5 rMn6 (hNe 99) rMn8 rMn9 rMn10 H.size sMn (1 : Int32) o5 go5) (cwV 1 hts (gcV_X10_refuse (mB7 _ (List.mem_of_getElem? (i := 18) rfl))) rfl rfl rfl hdV_X10_refuse ⟨Nat.le_of_ble_eq_true rfl, Nat.le_of_ble_eq_true rfl⟩) hK hP hD hS hA [0] (fl3 _ _ _) rfl (by decide) (fl1 _) (fl1 _) rfl rfl (fl3 _ _ _) (va_recv hK hP (ci := 9) (q0 := 0) rfl (rwl (rwl o_Mn))) rfl hl.1 rfl (Nat.le_of_ble_eq_true rfl) dX10_most_13 ⟨Nat.zero_le _, Nat.zero_le _⟩ (fun H locs hP hD hS => ?_)
      have hP : va_P D vwCl (wMn K hMn rMn0 (hRo 99) rMn3 rMn4 rMn5 rMn6 (hNe 99) rMn8 rMn9 rMn10 o5.2 ++ wNe K hNe gNe0 sNe ++ wRo K hRo sRo) H := hP
      have hD : va_D A (wMn K hMn rMn0 (hRo 99) rMn3 rMn4 rMn5 rMn6 (hNe 99) rMn8 rMn9 rMn10 o5.2 ++ wNe K hNe gNe0 sNe ++ wRo K hRo sRo) := hD
      have e9 := Option.some.inj hf
      rw [hQ]
      exact W.iret (v := o5.1) hx hb hr (fun t ht hW => ⟨⟨o5.1, (o5.2, sNe), rfl, ⟨pr1 e9, pr2 e9⟩, ⟨by rw [ht]; exact hP, va_K.moved hW.alike hK, hD⟩⟩, hS.F ht⟩) hS.2.2 dX10_most_16
  rw [hHe] at hgo
  exact hgo

theorem gcV_X5_nearest {T0 : Cond} {own : String} {i : Nat} (h : Cond.methodLink own i yX5_nearest ∈ wsL_law) : GoodIn (T0 :: wsL_law) (wsV own i RX5 yX5_nearest wz_X5_nearest) := gV h (mB51 _ (List.mem_of_getElem? (i := 19) rfl)) (mB51 _ (List.mem_of_getElem? (i := 20) rfl)) (mB2 _ (List.mem_of_getElem? (i := 10) rfl)) (mB51 _ (List.mem_of_getElem? (i := 21) rfl))
theorem hdV_X5_nearest : yX5_nearest.cls = RX5 ∧ yX5_nearest.cls ≠ "java/lang/invoke/MethodHandle" ∧ yX5_nearest.cls ≠ "java/lang/invoke/VarHandle" ∧ (parseMethodDescriptor yX5_nearest.desc).map (fun d => d.parameters.length) = some 3 := by decide +kernel
def wz_X10_near : List Cond := .code yX10_near cX10_near 3 (some .int) :: wsL_law
abbrev r_X10_near : Room := { frames := 4, cells := 0, slots := 0, locals := 92 }
set_option maxHeartbeats 4000000 in
set_option maxRecDepth 100000 in
theorem c_X10_near (l : Launch) (D : va_G) (K : Nat → ClassId) (F : Nat) (hMn : Nat → Nat) (rMn0 : Nat) (rMn3 : Nat) (rMn4 : Nat) (rMn5 : Nat) (rMn6 : Nat) (rMn8 : Nat) (rMn9 : Nat) (rMn10 : Nat) (hNe : Nat → Nat) (gNe0 : Nat → Nat) (hRo : Nat → Nat) (sz : Nat) (sMn : MS) (sNe : MS) (sRo : MS) (p1 : Int32) (p2 : Int32) (res : Int32 × MS × MS) (hf : f_X10_near F sRo p1 p2 sMn sNe = some res) : Met l yX10_near wz_X10_near r_X10_near (va_Pc [.ref (hMn 99), .int p1, .int p2] (PW D K (wMn K hMn rMn0 (hRo 99) rMn3 rMn4 rMn5 rMn6 (hNe 99) rMn8 rMn9 rMn10 sMn ++ wNe K hNe gNe0 sNe ++ wRo K hRo sRo) sz)) (va_Qi (fun r u => r = res.1 ∧ u = res.2) (fun u t => BW D K (va_A (wMn K hMn rMn0 (hRo 99) rMn3 rMn4 rMn5 rMn6 (hNe 99) rMn8 rMn9 rMn10 sMn ++ wNe K hNe gNe0 sNe ++ wRo K hRo sRo) sz) (wMn K hMn rMn0 (hRo 99) rMn3 rMn4 rMn5 rMn6 (hNe 99) rMn8 rMn9 rMn10 u.1 ++ wNe K hNe gNe0 u.2 ++ wRo K hRo sRo) t) (va_A (wMn K hMn rMn0 (hRo 99) rMn3 rMn4 rMn5 rMn6 (hNe 99) rMn8 rMn9 rMn10 sMn ++ wNe K hNe gNe0 sNe ++ wRo K hRo sRo) sz)) 0 0 (va_A (wMn K hMn rMn0 (hRo 99) rMn3 rMn4 rMn5 rMn6 (hNe 99) rMn8 rMn9 rMn10 sMn ++ wNe K hNe gNe0 sNe ++ wRo K hRo sRo) sz) := by
  refine Met.ofW (cc := cX10_near) (maxL := 3) (ret := (some .int)) (by decide) rfl ?_
  intro p e s m args below meth c s₁ B hml hv
  obtain ⟨hargs, hsz, hP, hK, hD0⟩ := hv
  have hx := B.exec
  have hb := B.bytes
  have hr := B.returns
  have hts := atoms_spec (ws := wz_X10_near) B.pre
  have htl : ∀ w ∈ wsL_law, w.before args s = true := fun w h => hts w (List.mem_cons_of_mem _ h)
  have hown : s.vm.findClass RX10 = some m.cls := findClass_of_methodNamed B.named
  have hlocks := B.notSynchronized
  subst hsz
  have hD := hD0.self (sz := s.heap.size)
  generalize hAe : va_A (wMn K hMn rMn0 (hRo 99) rMn3 rMn4 rMn5 rMn6 (hNe 99) rMn8 rMn9 rMn10 sMn ++ wNe K hNe gNe0 sNe ++ wRo K hRo sRo) s.heap.size = A at hD ⊢
  have hA : ∀ q : Nat, s.heap.size ≤ q → A q := fun q h => by rw [← hAe]; exact Or.inr h
  have hS : va_S A s.heap s.heap [] := va_S.rf
  have iX10 : ∀ w ∈ wsX100, w ∈ wz_X10_near := fun w h => List.mem_cons_of_mem _ (inlX10 w h)
  suffices hgo : ∀ Q : State → Prop, Q = MQ below (va_Qi (fun r u => r = res.1 ∧ u = res.2) (fun u t => BW D K A (wMn K hMn rMn0 (hRo 99) rMn3 rMn4 rMn5 rMn6 (hNe 99) rMn8 rMn9 rMn10 u.1 ++ wNe K hNe gNe0 u.2 ++ wRo K hRo sRo) t) A) args s 0 0 A → W p l e (headSpec wz_X10_near r_X10_near).room s m args below meth c s.heap [] 0 0 Q (entryFrame m args 3) from hgo _ rfl
  intro Q hQ
  have hen : entryFrame m args 3 = entryFrame m (([.ref (hMn 99), .int p1, .int p2] : List Value).toArray) 3 := by rw [hargs]
  have hl := lv_entry ([.ref (hMn 99), .int p1, .int p2]) (n := 3) (Nat.le_of_ble_eq_true rfl)
  rw [hen, lg_entry_eq]
  generalize (lg_sl ([.ref (hMn 99), .int p1, .int p2]) ++ List.replicate (3 - (lg_sl ([.ref (hMn 99), .int p1, .int p2])).length) Slot.unset).toArray = ls at hl ⊢
  have hl : lv_has ls 3 [(0, .ref (hMn 99)), (1, .int p1), (2, .int p2)] := hl
  unfold f_X10_near at hf
  obtain ⟨H, hHe⟩ : ∃ z, z = s.heap := ⟨_, rfl⟩
  obtain ⟨locs, hLe⟩ : ∃ z : List Loc, z = [] := ⟨_, rfl⟩
  rw [← hLe]
  have hS : va_S A s.heap H locs := by rw [hHe, hLe]; exact hS
  have hP : va_P D vwCl (wMn K hMn rMn0 (hRo 99) rMn3 rMn4 rMn5 rMn6 (hNe 99) rMn8 rMn9 rMn10 sMn ++ wNe K hNe gNe0 sNe ++ wRo K hRo sRo) H := by rw [hHe]; exact hP
  have hgo : W p l e (headSpec wz_X10_near r_X10_near).room s m args below meth c H locs 0 0 Q (F0 m 0 ls []) := by
    refine lv_aload_n hx hb dX10_near_0 rfl (lv_at hl 0 rfl) ?_
    refine lv_iload_n hx hb dX10_near_1 rfl (lv_at hl 1 rfl) ?_
    refine lv_iload_n hx hb dX10_near_2 rfl (lv_at hl 2 rfl) ?_
    obtain ⟨o1, go1, hf⟩ := bd_s hf
    refine ro_Vi (As := [.int p1, .int p2]) (rest := []) ⟨hx, hb, hml, hown, hts⟩ (c_X10_areTwoPlaces l D K F hMn rMn0 rMn3 rMn4 rMn5 rMn6 (hNe 99) rMn8 rMn9 rMn10 hRo sMn sRo p1 p2 o1 go1) (cwV 2 hts (gcV_X10_areTwoPlaces (mB24 _ (List.mem_of_getElem? (i := 13) rfl))) rfl rfl rfl hdV_X10_areTwoPlaces ⟨Nat.le_of_ble_eq_true rfl, Nat.le_of_ble_eq_true rfl⟩) hK hP hS (va_PL (cs := [wMn K hMn rMn0 (hRo 99) rMn3 rMn4 rMn5 rMn6 (hNe 99) rMn8 rMn9 rMn10 sMn, wNe K hNe gNe0 sNe, wRo K hRo sRo]) (cc := [wMn K hMn rMn0 (hRo 99) rMn3 rMn4 rMn5 rMn6 (hNe 99) rMn8 rMn9 rMn10 sMn, wRo K hRo sRo]) hP (fl3 _ _ _) [0, 2] rfl (fl2 _ _)) (va_recv hK hP (ci := 9) (q0 := 0) rfl (rwl (rwl o_Mn))) rfl hl.1 rfl (Nat.le_of_ble_eq_true rfl) dX10_near_3 ⟨Nat.zero_le _, Nat.zero_le _⟩ (fun H locs hP hS => ?_)
    refine lv_if_ne (tgt := 15) hx hb dX10_near_6 (by decide) (fun c2 => ?_) (fun c2 => ?_)
    · have hf := it_f hf c2
      refine lv_aload_n hx hb dX10_near_15 rfl (lv_at hl 0 rfl) ?_
      refine lv_aload_n hx hb dX10_near_16 rfl (lv_at hl 0 rfl) ?_
      refine va_get (D := D) (ci := 9) (v := .ref (hNe 99)) (C := RX10) (T := TX10) (N := 14) hx hb hts iX10 hown hK hP 0 (rwl (rwl o_Mn)) rfl 7 (by decide) (htl _ (mB2 _ (List.mem_of_getElem? (i := 11) rfl))) (fun _ h9 => h9) rfl dX10_near_17 ?_
      refine lv_aload_n hx hb dX10_near_20 rfl (lv_at hl 0 rfl) ?_
      refine va_get (D := D) (ci := 9) (v := .ref (hRo 99)) (C := RX10) (T := TX10) (N := 14) hx hb hts iX10 hown hK hP 0 (rwl (rwl o_Mn)) rfl 2 (by decide) (htl _ (mB1 _ (List.mem_of_getElem? (i := 18) rfl))) (fun _ h9 => h9) rfl dX10_near_21 ?_
      refine lv_iload_n hx hb dX10_near_24 rfl (lv_at hl 1 rfl) ?_
      refine lv_iload_n hx hb dX10_near_25 rfl (lv_at hl 2 rfl) ?_
      obtain ⟨o3, go3, hf⟩ := bd_s hf
      refine rk_Vi (wn := wMn K hMn rMn0 (hRo 99) rMn3 rMn4 rMn5 rMn6 (hNe 99) rMn8 rMn9 rMn10 sMn ++ wNe K hNe gNe0 o3.2 ++ wRo K hRo sRo) [wMn K hMn rMn0 (hRo 99) rMn3 rMn4 rMn5 rMn6 (hNe 99) rMn8 rMn9 rMn10 sMn, wNe K hNe gNe0 sNe, wRo K hRo sRo] [wNe K hNe gNe0 sNe, wRo K hRo sRo] [wNe K hNe gNe0 o3.2, wRo K hRo sRo] [wMn K hMn rMn0 (hRo 99) rMn3 rMn4 rMn5 rMn6 (hNe 99) rMn8 rMn9 rMn10 sMn, wNe K hNe gNe0 o3.2, wRo K hRo sRo] (As := [.ref (hRo 99), .int p1, .int p2]) (rest := [.ref (hMn 99)]) ⟨hx, hb, hml, hown, hts⟩ (c_X5_nearest l D K F hNe gNe0 hRo H.size sNe sRo p1 p2 o3 go3) (cwV 3 hts (gcV_X5_nearest (mB51 _ (List.mem_of_getElem? (i := 18) rfl))) rfl rfl rfl hdV_X5_nearest ⟨Nat.le_of_ble_eq_true rfl, Nat.le_of_ble_eq_true rfl⟩) hK hP hD hS hA [1, 2] (fl3 _ _ _) rfl (by decide) (fl2 _ _) (fl2 _ _) rfl rfl (fl3 _ _ _) (va_recv hK hP (ci := 4) (q0 := (1 + 0)) rfl (rwl (rwr ln_Mn o_Ne))) rfl hl.1 rfl (Nat.le_of_ble_eq_true rfl) dX10_near_26 ⟨Nat.zero_le _, Nat.zero_le _⟩ (fun H locs hP hD hS => ?_)
      have hP : va_P D vwCl (wMn K hMn rMn0 (hRo 99) rMn3 rMn4 rMn5 rMn6 (hNe 99) rMn8 rMn9 rMn10 sMn ++ wNe K hNe gNe0 o3.2 ++ wRo K hRo sRo) H := hP
      have hD : va_D A (wMn K hMn rMn0 (hRo 99) rMn3 rMn4 rMn5 rMn6 (hNe 99) rMn8 rMn9 rMn10 sMn ++ wNe K hNe gNe0 o3.2 ++ wRo K hRo sRo) := hD
      obtain ⟨o4, go4, hf⟩ := bd_s hf
      refine rk_Vi (wn := wMn K hMn rMn0 (hRo 99) rMn3 rMn4 rMn5 rMn6 (hNe 99) rMn8 rMn9 rMn10 o4.2 ++ wNe K hNe gNe0 o3.2 ++ wRo K hRo sRo) [wMn K hMn rMn0 (hRo 99) rMn3 rMn4 rMn5 rMn6 (hNe 99) rMn8 rMn9 rMn10 sMn, wNe K hNe gNe0 o3.2, wRo K hRo sRo] [wMn K hMn rMn0 (hRo 99) rMn3 rMn4 rMn5 rMn6 (hNe 99) rMn8 rMn9 rMn10 sMn] [wMn K hMn rMn0 (hRo 99) rMn3 rMn4 rMn5 rMn6 (hNe 99) rMn8 rMn9 rMn10 o4.2] [wMn K hMn rMn0 (hRo 99) rMn3 rMn4 rMn5 rMn6 (hNe 99) rMn8 rMn9 rMn10 o4.2, wNe K hNe gNe0 o3.2, wRo K hRo sRo] (As := [.int o3.1]) (rest := []) ⟨hx, hb, hml, hown, hts⟩ (c_X10_accept l D K F hMn rMn0 (hRo 99) rMn3 rMn4 rMn5 rMn6 (hNe 99) rMn8 rMn9 rMn10 H.size sMn o3.1 o4 go4) (cwV 1 hts (gcV_X10_accept (mB17 _ (List.mem_of_getElem? (i := 14) rfl))) rfl rfl rfl hdV_X10_accept ⟨Nat.le_of_ble_eq_true rfl, Nat.le_of_ble_eq_true rfl⟩) hK hP hD hS hA [0] (fl3 _ _ _) rfl (by decide) (fl1 _) (fl1 _) rfl rfl (fl3 _ _ _) (va_recv hK hP (ci := 9) (q0 := 0) rfl (rwl (rwl o_Mn))) rfl hl.1 rfl (Nat.le_of_ble_eq_true rfl) dX10_near_29 ⟨Nat.zero_le _, Nat.zero_le _⟩ (fun H locs hP hD hS => ?_)
      have hP : va_P D vwCl (wMn K hMn rMn0 (hRo 99) rMn3 rMn4 rMn5 rMn6 (hNe 99) rMn8 rMn9 rMn10 o4.2 ++ wNe K hNe gNe0 o3.2 ++ wRo K hRo sRo) H := hP
      have hD : va_D A (wMn K hMn rMn0 (hRo 99) rMn3 rMn4 rMn5 rMn6 (hNe 99) rMn8 rMn9 rMn10 o4.2 ++ wNe K hNe gNe0 o3.2 ++ wRo K hRo sRo) := hD
      have e9 := Option.some.inj hf
      rw [hQ]
      exact W.iret (v := o4.1) hx hb hr (fun t ht hW => ⟨⟨o4.1, (o4.2, o3.2), rfl, ⟨pr1 e9, pr2 e9⟩, ⟨by rw [ht]; exact hP, va_K.moved hW.alike hK, hD⟩⟩, hS.F ht⟩) hS.2.2 dX10_near_32
    · have hf := it_t hf c2
      refine lv_aload_n hx hb dX10_near_9 rfl (lv_at hl 0 rfl) ?_
      refine lv_iconst (v := (1 : Int32)) hx hb dX10_near_10 (by decide) ?_
      obtain ⟨o5, go5, hf⟩ := bd_s hf
      refine rk_Vi (wn := wMn K hMn rMn0 (hRo 99) rMn3 rMn4 rMn5 rMn6 (hNe 99) rMn8 rMn9 rMn10 o5.2 ++ wNe K hNe gNe0 sNe ++ wRo K hRo sRo) [wMn K hMn rMn0 (hRo 99) rMn3 rMn4 rMn5 rMn6 (hNe 99) rMn8 rMn9 rMn10 sMn, wNe K hNe gNe0 sNe, wRo K hRo sRo] [wMn K hMn rMn0 (hRo 99) rMn3 rMn4 rMn5 rMn6 (hNe 99) rMn8 rMn9 rMn10 sMn] [wMn K hMn rMn0 (hRo 99) rMn3 rMn4 rMn5 rMn6 (hNe 99) rMn8 rMn9 rMn10 o5.2] [wMn K hMn rMn0 (hRo 99) rMn3 rMn4 rMn5 rMn6 (hNe 99) rMn8 rMn9 rMn10 o5.2, wNe K hNe gNe0 sNe, wRo K hRo sRo] (As := [.int (1 : Int32)]) (rest := []) ⟨hx, hb, hml, hown, hts⟩ (c_X10_refuse l D K F hMn rMn0 (hRo 99) rMn3 rMn4 rMn5 rMn6 (hNe 99) rMn8 rMn9 rMn10 H.size sMn (1 : Int32) o5 go5) (cwV 1 hts (gcV_X10_refuse (mB7 _ (List.mem_of_getElem? (i := 18) rfl))) rfl rfl rfl hdV_X10_refuse ⟨Nat.le_of_ble_eq_true rfl, Nat.le_of_ble_eq_true rfl⟩) hK hP hD hS hA [0] (fl3 _ _ _) rfl (by decide) (fl1 _) (fl1 _) rfl rfl (fl3 _ _ _) (va_recv hK hP (ci := 9) (q0 := 0) rfl (rwl (rwl o_Mn))) rfl hl.1 rfl (Nat.le_of_ble_eq_true rfl) dX10_near_11 ⟨Nat.zero_le _, Nat.zero_le _⟩ (fun H locs hP hD hS => ?_)
      have hP : va_P D vwCl (wMn K hMn rMn0 (hRo 99) rMn3 rMn4 rMn5 rMn6 (hNe 99) rMn8 rMn9 rMn10 o5.2 ++ wNe K hNe gNe0 sNe ++ wRo K hRo sRo) H := hP
      have hD : va_D A (wMn K hMn rMn0 (hRo 99) rMn3 rMn4 rMn5 rMn6 (hNe 99) rMn8 rMn9 rMn10 o5.2 ++ wNe K hNe gNe0 sNe ++ wRo K hRo sRo) := hD
      have e9 := Option.some.inj hf
      rw [hQ]
      exact W.iret (v := o5.1) hx hb hr (fun t ht hW => ⟨⟨o5.1, (o5.2, sNe), rfl, ⟨pr1 e9, pr2 e9⟩, ⟨by rw [ht]; exact hP, va_K.moved hW.alike hK, hD⟩⟩, hS.F ht⟩) hS.2.2 dX10_near_14
  rw [hHe] at hgo
  exact hgo

def wz_X10_worth : List Cond := .code yX10_worth cX10_worth 3 (some .int) :: wsL_law
abbrev r_X10_worth : Room := { frames := 4, cells := 0, slots := 0, locals := 101 }
set_option maxHeartbeats 4000000 in
set_option maxRecDepth 100000 in
theorem c_X10_worth (l : Launch) (D : va_G) (K : Nat → ClassId) (F : Nat) (hMn : Nat → Nat) (rMn0 : Nat) (rMn3 : Nat) (rMn4 : Nat) (rMn6 : Nat) (rMn8 : Nat) (rMn9 : Nat) (rMn10 : Nat) (hPl : Nat → Nat) (gPl3 : Nat → Nat) (hPc : Nat → Nat) (hNe : Nat → Nat) (hNc : Nat → Nat) (hRo : Nat → Nat) (sz : Nat) (sMn : MS) (sPl : MS) (sPc : MS) (sNe : MS) (sNc : MS) (sRo : MS) (res : Int32 × MS × MS × MS × MS × MS) (hf : f_X10_worth F sRo sMn sPl sPc sNe sNc = some res) : Met l yX10_worth wz_X10_worth r_X10_worth (va_Pc [.ref (hMn 99)] (PW D K (wMn K hMn rMn0 (hRo 99) rMn3 rMn4 (hPl 99) rMn6 (hNe 99) rMn8 rMn9 rMn10 sMn ++ wPl K hPl hPc gPl3 sPl ++ wPc K hPc sPc ++ wNe K hNe hNc sNe ++ wNc K hNc sNc ++ wRo K hRo sRo) sz)) (va_Qi (fun r u => r = res.1 ∧ u = res.2) (fun u t => BW D K (va_A (wMn K hMn rMn0 (hRo 99) rMn3 rMn4 (hPl 99) rMn6 (hNe 99) rMn8 rMn9 rMn10 sMn ++ wPl K hPl hPc gPl3 sPl ++ wPc K hPc sPc ++ wNe K hNe hNc sNe ++ wNc K hNc sNc ++ wRo K hRo sRo) sz) (wMn K hMn rMn0 (hRo 99) rMn3 rMn4 (hPl 99) rMn6 (hNe 99) rMn8 rMn9 rMn10 u.1 ++ wPl K hPl hPc gPl3 u.2.1 ++ wPc K hPc u.2.2.1 ++ wNe K hNe hNc u.2.2.2.1 ++ wNc K hNc u.2.2.2.2 ++ wRo K hRo sRo) t) (va_A (wMn K hMn rMn0 (hRo 99) rMn3 rMn4 (hPl 99) rMn6 (hNe 99) rMn8 rMn9 rMn10 sMn ++ wPl K hPl hPc gPl3 sPl ++ wPc K hPc sPc ++ wNe K hNe hNc sNe ++ wNc K hNc sNc ++ wRo K hRo sRo) sz)) 0 0 (va_A (wMn K hMn rMn0 (hRo 99) rMn3 rMn4 (hPl 99) rMn6 (hNe 99) rMn8 rMn9 rMn10 sMn ++ wPl K hPl hPc gPl3 sPl ++ wPc K hPc sPc ++ wNe K hNe hNc sNe ++ wNc K hNc sNc ++ wRo K hRo sRo) sz) := by
  refine Met.ofW (cc := cX10_worth) (maxL := 3) (ret := (some .int)) (by decide) rfl ?_
  intro p e s m args below meth c s₁ B hml hv
  obtain ⟨hargs, hsz, hP, hK, hD0⟩ := hv
  have hx := B.exec
  have hb := B.bytes
  have hr := B.returns
  have hts := atoms_spec (ws := wz_X10_worth) B.pre
  have htl : ∀ w ∈ wsL_law, w.before args s = true := fun w h => hts w (List.mem_cons_of_mem _ h)
  have hown : s.vm.findClass RX10 = some m.cls := findClass_of_methodNamed B.named
  have hlocks := B.notSynchronized
  subst hsz
  have hD := hD0.self (sz := s.heap.size)
  generalize hAe : va_A (wMn K hMn rMn0 (hRo 99) rMn3 rMn4 (hPl 99) rMn6 (hNe 99) rMn8 rMn9 rMn10 sMn ++ wPl K hPl hPc gPl3 sPl ++ wPc K hPc sPc ++ wNe K hNe hNc sNe ++ wNc K hNc sNc ++ wRo K hRo sRo) s.heap.size = A at hD ⊢
  have hA : ∀ q : Nat, s.heap.size ≤ q → A q := fun q h => by rw [← hAe]; exact Or.inr h
  have hS : va_S A s.heap s.heap [] := va_S.rf
  have iX10 : ∀ w ∈ wsX100, w ∈ wz_X10_worth := fun w h => List.mem_cons_of_mem _ (inlX10 w h)
  suffices hgo : ∀ Q : State → Prop, Q = MQ below (va_Qi (fun r u => r = res.1 ∧ u = res.2) (fun u t => BW D K A (wMn K hMn rMn0 (hRo 99) rMn3 rMn4 (hPl 99) rMn6 (hNe 99) rMn8 rMn9 rMn10 u.1 ++ wPl K hPl hPc gPl3 u.2.1 ++ wPc K hPc u.2.2.1 ++ wNe K hNe hNc u.2.2.2.1 ++ wNc K hNc u.2.2.2.2 ++ wRo K hRo sRo) t) A) args s 0 0 A → W p l e (headSpec wz_X10_worth r_X10_worth).room s m args below meth c s.heap [] 0 0 Q (entryFrame m args 3) from hgo _ rfl
  intro Q hQ
  have w63 : ∀ (y1 : Int32), ∀ (sMn : MS), ∀ (sPl : MS), ∀ (sPc : MS), ∀ (sNe : MS), ∀ (sNc : MS), ∀ (H : Heap) (locs : List Loc) (ls : Array Slot), f_X10_worth_63 F sRo y1 sMn sPl sPc sNe sNc = some res → va_P D vwCl (wMn K hMn rMn0 (hRo 99) rMn3 rMn4 (hPl 99) rMn6 (hNe 99) rMn8 rMn9 rMn10 sMn ++ wPl K hPl hPc gPl3 sPl ++ wPc K hPc sPc ++ wNe K hNe hNc sNe ++ wNc K hNc sNc ++ wRo K hRo sRo) H → va_D A (wMn K hMn rMn0 (hRo 99) rMn3 rMn4 (hPl 99) rMn6 (hNe 99) rMn8 rMn9 rMn10 sMn ++ wPl K hPl hPc gPl3 sPl ++ wPc K hPc sPc ++ wNe K hNe hNc sNe ++ wNc K hNc sNc ++ wRo K hRo sRo) → va_S A s.heap H locs → lv_has ls 3 [] → W p l e (headSpec wz_X10_worth r_X10_worth).room s m args below meth c H locs 0 0 Q (F0 m 63 ls [.int y1, .ref (hMn 99)]) := by
    intro y1 sMn sPl sPc sNe sNc H locs ls hf hP hD hS hl
    unfold f_X10_worth_63 at hf
    obtain ⟨o8, go8, hf⟩ := bd_s hf
    refine rk_Vi (wn := wMn K hMn rMn0 (hRo 99) rMn3 rMn4 (hPl 99) rMn6 (hNe 99) rMn8 rMn9 rMn10 o8.2 ++ wPl K hPl hPc gPl3 sPl ++ wPc K hPc sPc ++ wNe K hNe hNc sNe ++ wNc K hNc sNc ++ wRo K hRo sRo) [wMn K hMn rMn0 (hRo 99) rMn3 rMn4 (hPl 99) rMn6 (hNe 99) rMn8 rMn9 rMn10 sMn, wPl K hPl hPc gPl3 sPl, wPc K hPc sPc, wNe K hNe hNc sNe, wNc K hNc sNc, wRo K hRo sRo] [wMn K hMn rMn0 (hRo 99) rMn3 rMn4 (hPl 99) rMn6 (hNe 99) rMn8 rMn9 rMn10 sMn] [wMn K hMn rMn0 (hRo 99) rMn3 rMn4 (hPl 99) rMn6 (hNe 99) rMn8 rMn9 rMn10 o8.2] [wMn K hMn rMn0 (hRo 99) rMn3 rMn4 (hPl 99) rMn6 (hNe 99) rMn8 rMn9 rMn10 o8.2, wPl K hPl hPc gPl3 sPl, wPc K hPc sPc, wNe K hNe hNc sNe, wNc K hNc sNc, wRo K hRo sRo] (As := [.int y1]) (rest := []) ⟨hx, hb, hml, hown, hts⟩ (c_X10_accept l D K F hMn rMn0 (hRo 99) rMn3 rMn4 (hPl 99) rMn6 (hNe 99) rMn8 rMn9 rMn10 H.size sMn y1 o8 go8) (cwV 1 hts (gcV_X10_accept (mB17 _ (List.mem_of_getElem? (i := 14) rfl))) rfl rfl rfl hdV_X10_accept ⟨Nat.le_of_ble_eq_true rfl, Nat.le_of_ble_eq_true rfl⟩) hK hP hD hS hA [0] (fl6 _ _ _ _ _ _) rfl (by decide) (fl1 _) (fl1 _) rfl rfl (fl6 _ _ _ _ _ _) (va_recv hK hP (ci := 9) (q0 := 0) rfl (rwl (rwl (rwl (rwl (rwl o_Mn)))))) rfl hl.1 rfl (Nat.le_of_ble_eq_true rfl) dX10_worth_63 ⟨Nat.zero_le _, Nat.zero_le _⟩ (fun H locs hP hD hS => ?_)
    have hP : va_P D vwCl (wMn K hMn rMn0 (hRo 99) rMn3 rMn4 (hPl 99) rMn6 (hNe 99) rMn8 rMn9 rMn10 o8.2 ++ wPl K hPl hPc gPl3 sPl ++ wPc K hPc sPc ++ wNe K hNe hNc sNe ++ wNc K hNc sNc ++ wRo K hRo sRo) H := hP
    have hD : va_D A (wMn K hMn rMn0 (hRo 99) rMn3 rMn4 (hPl 99) rMn6 (hNe 99) rMn8 rMn9 rMn10 o8.2 ++ wPl K hPl hPc gPl3 sPl ++ wPc K hPc sPc ++ wNe K hNe hNc sNe ++ wNc K hNc sNc ++ wRo K hRo sRo) := hD
    have e9 := Option.some.inj hf
    rw [hQ]
    exact W.iret (v := o8.1) hx hb hr (fun t ht hW => ⟨⟨o8.1, (o8.2, sPl, sPc, sNe, sNc), rfl, ⟨pr1 e9, pr2 e9⟩, ⟨by rw [ht]; exact hP, va_K.moved hW.alike hK, hD⟩⟩, hS.F ht⟩) hS.2.2 dX10_worth_66
  have w55 : ∀ (sMn : MS), ∀ (sPl : MS), ∀ (sPc : MS), ∀ (sNe : MS), ∀ (sNc : MS), ∀ (H : Heap) (locs : List Loc) (ls : Array Slot), f_X10_worth_55 F sRo sMn sPl sPc sNe sNc = some res → va_P D vwCl (wMn K hMn rMn0 (hRo 99) rMn3 rMn4 (hPl 99) rMn6 (hNe 99) rMn8 rMn9 rMn10 sMn ++ wPl K hPl hPc gPl3 sPl ++ wPc K hPc sPc ++ wNe K hNe hNc sNe ++ wNc K hNc sNc ++ wRo K hRo sRo) H → va_D A (wMn K hMn rMn0 (hRo 99) rMn3 rMn4 (hPl 99) rMn6 (hNe 99) rMn8 rMn9 rMn10 sMn ++ wPl K hPl hPc gPl3 sPl ++ wPc K hPc sPc ++ wNe K hNe hNc sNe ++ wNc K hNc sNc ++ wRo K hRo sRo) → va_S A s.heap H locs → lv_has ls 3 [] → W p l e (headSpec wz_X10_worth r_X10_worth).room s m args below meth c H locs 0 0 Q (F0 m 55 ls [.ref (hMn 99)]) := by
    intro sMn sPl sPc sNe sNc H locs ls hf hP hD hS hl
    unfold f_X10_worth_55 at hf
    refine lv_bipush (v := (-2 : Int32)) hx hb dX10_worth_55 (by decide) ?_
    refine lv_goto (tgt := 63) hx hb dX10_worth_57 (by decide) ?_
    exact w63 (-2 : Int32) sMn sPl sPc sNe sNc H locs ls hf hP hD hS (lv_sub hl [] rfl)
  have hen : entryFrame m args 3 = entryFrame m (([.ref (hMn 99)] : List Value).toArray) 3 := by rw [hargs]
  have hl := lv_entry ([.ref (hMn 99)]) (n := 3) (Nat.le_of_ble_eq_true rfl)
  rw [hen, lg_entry_eq]
  generalize (lg_sl ([.ref (hMn 99)]) ++ List.replicate (3 - (lg_sl ([.ref (hMn 99)])).length) Slot.unset).toArray = ls at hl ⊢
  have hl : lv_has ls 3 [(0, .ref (hMn 99))] := hl
  unfold f_X10_worth at hf
  obtain ⟨H, hHe⟩ : ∃ z, z = s.heap := ⟨_, rfl⟩
  obtain ⟨locs, hLe⟩ : ∃ z : List Loc, z = [] := ⟨_, rfl⟩
  rw [← hLe]
  have hS : va_S A s.heap H locs := by rw [hHe, hLe]; exact hS
  have hP : va_P D vwCl (wMn K hMn rMn0 (hRo 99) rMn3 rMn4 (hPl 99) rMn6 (hNe 99) rMn8 rMn9 rMn10 sMn ++ wPl K hPl hPc gPl3 sPl ++ wPc K hPc sPc ++ wNe K hNe hNc sNe ++ wNc K hNc sNc ++ wRo K hRo sRo) H := by rw [hHe]; exact hP
  have hgo : W p l e (headSpec wz_X10_worth r_X10_worth).room s m args below meth c H locs 0 0 Q (F0 m 0 ls []) := by
    refine lv_aload_n hx hb dX10_worth_0 rfl (lv_at hl 0 rfl) ?_
    refine va_get (D := D) (ci := 9) (v := .ref (hRo 99)) (C := RX10) (T := TX10) (N := 14) hx hb hts iX10 hown hK hP 0 (rwl (rwl (rwl (rwl (rwl o_Mn))))) rfl 2 (by decide) (htl _ (mB1 _ (List.mem_of_getElem? (i := 18) rfl))) (fun _ h9 => h9) rfl dX10_worth_1 ?_
    obtain ⟨o1, go1, hf⟩ := bd_s hf
    refine ro_Vi (As := []) (rest := []) ⟨hx, hb, hml, hown, hts⟩ (c_X9_isTold l D K F hRo sRo o1 go1) (cwV 0 hts (gcV_X9_isTold (mB30 _ (List.mem_of_getElem? (i := 0) rfl))) rfl rfl rfl hdV_X9_isTold ⟨Nat.le_of_ble_eq_true rfl, Nat.le_of_ble_eq_true rfl⟩) hK hP hS (va_PL (cs := [wMn K hMn rMn0 (hRo 99) rMn3 rMn4 (hPl 99) rMn6 (hNe 99) rMn8 rMn9 rMn10 sMn, wPl K hPl hPc gPl3 sPl, wPc K hPc sPc, wNe K hNe hNc sNe, wNc K hNc sNc, wRo K hRo sRo]) (cc := [wRo K hRo sRo]) hP (fl6 _ _ _ _ _ _) [5] rfl (fl1 _)) (va_recv hK hP (ci := 8) (q0 := (((((1 + 5) + 9) + 4) + 9) + 0)) rfl (rwr (lnA (lnA (lnA (lnA ln_Mn ln_Pl) ln_Pc) ln_Ne) ln_Nc) o_Ro)) rfl hl.1 rfl (Nat.le_of_ble_eq_true rfl) dX10_worth_4 ⟨Nat.zero_le _, Nat.zero_le _⟩ (fun H locs hP hS => ?_)
    refine lv_if_ne (tgt := 16) hx hb dX10_worth_7 (by decide) (fun c2 => ?_) (fun c2 => ?_)
    · have hf := it_f hf c2
      refine lv_aload_n hx hb dX10_worth_16 rfl (lv_at hl 0 rfl) ?_
      refine va_get (D := D) (ci := 9) (v := .ref (hPl 99)) (C := RX10) (T := TX10) (N := 14) hx hb hts iX10 hown hK hP 0 (rwl (rwl (rwl (rwl (rwl o_Mn))))) rfl 5 (by decide) (htl _ (mB2 _ (List.mem_of_getElem? (i := 3) rfl))) (fun _ h9 => h9) rfl dX10_worth_17 ?_
      refine lv_aload_n hx hb dX10_worth_20 rfl (lv_at hl 0 rfl) ?_
      refine va_get (D := D) (ci := 9) (v := .ref (hRo 99)) (C := RX10) (T := TX10) (N := 14) hx hb hts iX10 hown hK hP 0 (rwl (rwl (rwl (rwl (rwl o_Mn))))) rfl 2 (by decide) (htl _ (mB1 _ (List.mem_of_getElem? (i := 18) rfl))) (fun _ h9 => h9) rfl dX10_worth_21 ?_
      refine lv_iconst (v := (-1 : Int32)) hx hb dX10_worth_24 (by decide) ?_
      obtain ⟨o3, go3, hf⟩ := bd_s hf
      refine rk_Vi (wn := wMn K hMn rMn0 (hRo 99) rMn3 rMn4 (hPl 99) rMn6 (hNe 99) rMn8 rMn9 rMn10 sMn ++ wPl K hPl hPc gPl3 o3.2.1 ++ wPc K hPc o3.2.2 ++ wNe K hNe hNc sNe ++ wNc K hNc sNc ++ wRo K hRo sRo) [wMn K hMn rMn0 (hRo 99) rMn3 rMn4 (hPl 99) rMn6 (hNe 99) rMn8 rMn9 rMn10 sMn, wPl K hPl hPc gPl3 sPl, wPc K hPc sPc, wNe K hNe hNc sNe, wNc K hNc sNc, wRo K hRo sRo] [wPl K hPl hPc gPl3 sPl, wPc K hPc sPc, wRo K hRo sRo] [wPl K hPl hPc gPl3 o3.2.1, wPc K hPc o3.2.2, wRo K hRo sRo] [wMn K hMn rMn0 (hRo 99) rMn3 rMn4 (hPl 99) rMn6 (hNe 99) rMn8 rMn9 rMn10 sMn, wPl K hPl hPc gPl3 o3.2.1, wPc K hPc o3.2.2, wNe K hNe hNc sNe, wNc K hNc sNc, wRo K hRo sRo] (As := [.ref (hRo 99), .int (-1 : Int32)]) (rest := []) ⟨hx, hb, hml, hown, hts⟩ (c_X6_leastCost l D K F hPl gPl3 hPc hRo H.size sPl sPc sRo (-1 : Int32) o3 go3) (cwV 2 hts (gcV_X6_leastCost (mB32 _ (List.mem_of_getElem? (i := 1) rfl))) rfl rfl rfl hdV_X6_leastCost ⟨Nat.le_of_ble_eq_true rfl, Nat.le_of_ble_eq_true rfl⟩) hK hP hD hS hA [1, 2, 5] (fl6 _ _ _ _ _ _) rfl (by decide) (fl3 _ _ _) (fl3 _ _ _) rfl rfl (fl6 _ _ _ _ _ _) (va_recv hK hP (ci := 5) (q0 := (1 + 0)) rfl (rwl (rwl (rwl (rwl (rwr ln_Mn o_Pl)))))) rfl hl.1 rfl (Nat.le_of_ble_eq_true rfl) dX10_worth_25 ⟨Nat.zero_le _, Nat.zero_le _⟩ (fun H locs hP hD hS => ?_)
      have hP : va_P D vwCl (wMn K hMn rMn0 (hRo 99) rMn3 rMn4 (hPl 99) rMn6 (hNe 99) rMn8 rMn9 rMn10 sMn ++ wPl K hPl hPc gPl3 o3.2.1 ++ wPc K hPc o3.2.2 ++ wNe K hNe hNc sNe ++ wNc K hNc sNc ++ wRo K hRo sRo) H := hP
      have hD : va_D A (wMn K hMn rMn0 (hRo 99) rMn3 rMn4 (hPl 99) rMn6 (hNe 99) rMn8 rMn9 rMn10 sMn ++ wPl K hPl hPc gPl3 o3.2.1 ++ wPc K hPc o3.2.2 ++ wNe K hNe hNc sNe ++ wNc K hNc sNc ++ wRo K hRo sRo) := hD
      refine lv_istore_n (lv' := [(1, .int o3.1), (0, .ref (hMn 99))]) hx hb dX10_worth_28 rfl hl (by decide) rfl (fun ls hl => ?_)
      refine lv_aload_n hx hb dX10_worth_29 rfl (lv_at hl 1 rfl) ?_
      refine va_get (D := D) (ci := 9) (v := .ref (hNe 99)) (C := RX10) (T := TX10) (N := 14) hx hb hts iX10 hown hK hP 0 (rwl (rwl (rwl (rwl (rwl o_Mn))))) rfl 7 (by decide) (htl _ (mB2 _ (List.mem_of_getElem? (i := 11) rfl))) (fun _ h9 => h9) rfl dX10_worth_30 ?_
      refine lv_aload_n hx hb dX10_worth_33 rfl (lv_at hl 1 rfl) ?_
      refine va_get (D := D) (ci := 9) (v := .ref (hRo 99)) (C := RX10) (T := TX10) (N := 14) hx hb hts iX10 hown hK hP 0 (rwl (rwl (rwl (rwl (rwl o_Mn))))) rfl 2 (by decide) (htl _ (mB1 _ (List.mem_of_getElem? (i := 18) rfl))) (fun _ h9 => h9) rfl dX10_worth_34 ?_
      refine lv_iconst (v := (0 : Int32)) hx hb dX10_worth_37 (by decide) ?_
      obtain ⟨o4, go4, hf⟩ := bd_s hf
      refine rk_Vi (wn := wMn K hMn rMn0 (hRo 99) rMn3 rMn4 (hPl 99) rMn6 (hNe 99) rMn8 rMn9 rMn10 sMn ++ wPl K hPl hPc gPl3 o3.2.1 ++ wPc K hPc o3.2.2 ++ wNe K hNe hNc o4.2.1 ++ wNc K hNc o4.2.2 ++ wRo K hRo sRo) [wMn K hMn rMn0 (hRo 99) rMn3 rMn4 (hPl 99) rMn6 (hNe 99) rMn8 rMn9 rMn10 sMn, wPl K hPl hPc gPl3 o3.2.1, wPc K hPc o3.2.2, wNe K hNe hNc sNe, wNc K hNc sNc, wRo K hRo sRo] [wNe K hNe hNc sNe, wNc K hNc sNc, wRo K hRo sRo] [wNe K hNe hNc o4.2.1, wNc K hNc o4.2.2, wRo K hRo sRo] [wMn K hMn rMn0 (hRo 99) rMn3 rMn4 (hPl 99) rMn6 (hNe 99) rMn8 rMn9 rMn10 sMn, wPl K hPl hPc gPl3 o3.2.1, wPc K hPc o3.2.2, wNe K hNe hNc o4.2.1, wNc K hNc o4.2.2, wRo K hRo sRo] (As := [.ref (hRo 99), .int (0 : Int32)]) (rest := []) ⟨hx, hb, hml, hown, hts⟩ (c_X5_least l D K F hNe hNc hRo H.size sNe sNc sRo (0 : Int32) o4 go4) (cwV 2 hts (gcV_X5_least (mB48 _ (List.mem_of_getElem? (i := 16) rfl))) rfl rfl rfl hdV_X5_least ⟨Nat.le_of_ble_eq_true rfl, Nat.le_of_ble_eq_true rfl⟩) hK hP hD hS hA [3, 4, 5] (fl6 _ _ _ _ _ _) rfl (by decide) (fl3 _ _ _) (fl3 _ _ _) rfl rfl (fl6 _ _ _ _ _ _) (va_recv hK hP (ci := 4) (q0 := (((1 + 5) + 9) + 0)) rfl (rwl (rwl (rwr (lnA (lnA ln_Mn ln_Pl) ln_Pc) o_Ne)))) rfl hl.1 rfl (Nat.le_of_ble_eq_true rfl) dX10_worth_38 ⟨Nat.zero_le _, Nat.zero_le _⟩ (fun H locs hP hD hS => ?_)
      have hP : va_P D vwCl (wMn K hMn rMn0 (hRo 99) rMn3 rMn4 (hPl 99) rMn6 (hNe 99) rMn8 rMn9 rMn10 sMn ++ wPl K hPl hPc gPl3 o3.2.1 ++ wPc K hPc o3.2.2 ++ wNe K hNe hNc o4.2.1 ++ wNc K hNc o4.2.2 ++ wRo K hRo sRo) H := hP
      have hD : va_D A (wMn K hMn rMn0 (hRo 99) rMn3 rMn4 (hPl 99) rMn6 (hNe 99) rMn8 rMn9 rMn10 sMn ++ wPl K hPl hPc gPl3 o3.2.1 ++ wPc K hPc o3.2.2 ++ wNe K hNe hNc o4.2.1 ++ wNc K hNc o4.2.2 ++ wRo K hRo sRo) := hD
      refine lv_istore_n (lv' := [(2, .int o4.1), (1, .int o3.1), (0, .ref (hMn 99))]) hx hb dX10_worth_41 rfl hl (by decide) rfl (fun ls hl => ?_)
      refine lv_aload_n hx hb dX10_worth_42 rfl (lv_at hl 2 rfl) ?_
      refine lv_iload_n hx hb dX10_worth_43 rfl (lv_at hl 1 rfl) ?_
      refine lv_bipush (v := (-2 : Int32)) hx hb dX10_worth_44 (by decide) ?_
      refine lv_icmp_eq (tgt := 55) hx hb dX10_worth_46 (by decide) (fun c5 => ?_) (fun c5 => ?_)
      · have hf := it_t hf c5
        exact w55 sMn o3.2.1 o3.2.2 o4.2.1 o4.2.2 H locs ls hf hP hD hS (lv_sub hl [] rfl)
      · have hf := it_f hf c5
        refine lv_iload_n hx hb dX10_worth_49 rfl (lv_at hl 0 rfl) ?_
        refine lv_bipush (v := (-2 : Int32)) hx hb dX10_worth_50 (by decide) ?_
        refine lv_icmp_ne (tgt := 60) hx hb dX10_worth_52 (by decide) (fun c6 => ?_) (fun c6 => ?_)
        · have hf := it_f hf c6
          refine lv_iload_n hx hb dX10_worth_60 rfl (lv_at hl 1 rfl) ?_
          refine lv_iload_n hx hb dX10_worth_61 rfl (lv_at hl 0 rfl) ?_
          refine lv_isub hx hb dX10_worth_62 ?_
          exact w63 (o3.1 - o4.1) sMn o3.2.1 o3.2.2 o4.2.1 o4.2.2 H locs ls hf hP hD hS (lv_sub hl [] rfl)
        · have hf := it_t hf c6
          exact w55 sMn o3.2.1 o3.2.2 o4.2.1 o4.2.2 H locs ls hf hP hD hS (lv_sub hl [] rfl)
    · have hf := it_t hf c2
      refine lv_aload_n hx hb dX10_worth_10 rfl (lv_at hl 0 rfl) ?_
      refine lv_iconst (v := (1 : Int32)) hx hb dX10_worth_11 (by decide) ?_
      obtain ⟨o7, go7, hf⟩ := bd_s hf
      refine rk_Vi (wn := wMn K hMn rMn0 (hRo 99) rMn3 rMn4 (hPl 99) rMn6 (hNe 99) rMn8 rMn9 rMn10 o7.2 ++ wPl K hPl hPc gPl3 sPl ++ wPc K hPc sPc ++ wNe K hNe hNc sNe ++ wNc K hNc sNc ++ wRo K hRo sRo) [wMn K hMn rMn0 (hRo 99) rMn3 rMn4 (hPl 99) rMn6 (hNe 99) rMn8 rMn9 rMn10 sMn, wPl K hPl hPc gPl3 sPl, wPc K hPc sPc, wNe K hNe hNc sNe, wNc K hNc sNc, wRo K hRo sRo] [wMn K hMn rMn0 (hRo 99) rMn3 rMn4 (hPl 99) rMn6 (hNe 99) rMn8 rMn9 rMn10 sMn] [wMn K hMn rMn0 (hRo 99) rMn3 rMn4 (hPl 99) rMn6 (hNe 99) rMn8 rMn9 rMn10 o7.2] [wMn K hMn rMn0 (hRo 99) rMn3 rMn4 (hPl 99) rMn6 (hNe 99) rMn8 rMn9 rMn10 o7.2, wPl K hPl hPc gPl3 sPl, wPc K hPc sPc, wNe K hNe hNc sNe, wNc K hNc sNc, wRo K hRo sRo] (As := [.int (1 : Int32)]) (rest := []) ⟨hx, hb, hml, hown, hts⟩ (c_X10_refuse l D K F hMn rMn0 (hRo 99) rMn3 rMn4 (hPl 99) rMn6 (hNe 99) rMn8 rMn9 rMn10 H.size sMn (1 : Int32) o7 go7) (cwV 1 hts (gcV_X10_refuse (mB7 _ (List.mem_of_getElem? (i := 18) rfl))) rfl rfl rfl hdV_X10_refuse ⟨Nat.le_of_ble_eq_true rfl, Nat.le_of_ble_eq_true rfl⟩) hK hP hD hS hA [0] (fl6 _ _ _ _ _ _) rfl (by decide) (fl1 _) (fl1 _) rfl rfl (fl6 _ _ _ _ _ _) (va_recv hK hP (ci := 9) (q0 := 0) rfl (rwl (rwl (rwl (rwl (rwl o_Mn)))))) rfl hl.1 rfl (Nat.le_of_ble_eq_true rfl) dX10_worth_12 ⟨Nat.zero_le _, Nat.zero_le _⟩ (fun H locs hP hD hS => ?_)
      have hP : va_P D vwCl (wMn K hMn rMn0 (hRo 99) rMn3 rMn4 (hPl 99) rMn6 (hNe 99) rMn8 rMn9 rMn10 o7.2 ++ wPl K hPl hPc gPl3 sPl ++ wPc K hPc sPc ++ wNe K hNe hNc sNe ++ wNc K hNc sNc ++ wRo K hRo sRo) H := hP
      have hD : va_D A (wMn K hMn rMn0 (hRo 99) rMn3 rMn4 (hPl 99) rMn6 (hNe 99) rMn8 rMn9 rMn10 o7.2 ++ wPl K hPl hPc gPl3 sPl ++ wPc K hPc sPc ++ wNe K hNe hNc sNe ++ wNc K hNc sNc ++ wRo K hRo sRo) := hD
      have e9 := Option.some.inj hf
      rw [hQ]
      exact W.iret (v := o7.1) hx hb hr (fun t ht hW => ⟨⟨o7.1, (o7.2, sPl, sPc, sNe, sNc), rfl, ⟨pr1 e9, pr2 e9⟩, ⟨by rw [ht]; exact hP, va_K.moved hW.alike hK, hD⟩⟩, hS.F ht⟩) hS.2.2 dX10_worth_15
  rw [hHe] at hgo
  exact hgo

theorem gcV_X2_plus {T0 : Cond} {own : String} {i : Nat} (h : Cond.methodLink own i yX2_plus ∈ wsL_law) : GoodIn (T0 :: wsL_law) (wsV own i RX2 yX2_plus wz_X2_plus) := gV h (mB53 _ (List.mem_of_getElem? (i := 1) rfl)) (mB53 _ (List.mem_of_getElem? (i := 2) rfl)) (mB2 _ (List.mem_of_getElem? (i := 22) rfl)) (mB53 _ (List.mem_of_getElem? (i := 3) rfl))
theorem hdV_X2_plus : yX2_plus.cls = RX2 ∧ yX2_plus.cls ≠ "java/lang/invoke/MethodHandle" ∧ yX2_plus.cls ≠ "java/lang/invoke/VarHandle" ∧ (parseMethodDescriptor yX2_plus.desc).map (fun d => d.parameters.length) = some 2 := by decide +kernel
def wz_X10_addParts : List Cond := .code yX10_addParts cX10_addParts 5 none :: wsL_law
abbrev r_X10_addParts : Room := { frames := 3, cells := 0, slots := 0, locals := 80 }
set_option maxHeartbeats 4000000 in
set_option maxRecDepth 100000 in
theorem c_X10_addParts (l : Launch) (D : va_G) (K : Nat → ClassId) (F : Nat) (hMn : Nat → Nat) (rMn0 : Nat) (rMn3 : Nat) (rMn4 : Nat) (rMn5 : Nat) (rMn6 : Nat) (rMn7 : Nat) (rMn8 : Nat) (rMn9 : Nat) (hFr : Nat → Nat) (hRo : Nat → Nat) (sz : Nat) (sMn : MS) (sFr : MS) (sRo : MS) (p1 : Int32) (p2 : Int32) (p3 : Int32) (res : MS) (hf : f_X10_addParts F sMn sRo p1 p2 p3 sFr = some res) : Met l yX10_addParts wz_X10_addParts r_X10_addParts (va_Pc [.ref (hMn 99), .int p1, .int p2, .int p3] (PW D K (wMn K hMn rMn0 (hRo 99) rMn3 rMn4 rMn5 rMn6 rMn7 rMn8 rMn9 (hFr 99) sMn ++ wFr K hFr sFr ++ wRo K hRo sRo) sz)) (va_Qv (fun u => u = res) (fun u t => BW D K (va_A (wMn K hMn rMn0 (hRo 99) rMn3 rMn4 rMn5 rMn6 rMn7 rMn8 rMn9 (hFr 99) sMn ++ wFr K hFr sFr ++ wRo K hRo sRo) sz) (wMn K hMn rMn0 (hRo 99) rMn3 rMn4 rMn5 rMn6 rMn7 rMn8 rMn9 (hFr 99) sMn ++ wFr K hFr u ++ wRo K hRo sRo) t) (va_A (wMn K hMn rMn0 (hRo 99) rMn3 rMn4 rMn5 rMn6 rMn7 rMn8 rMn9 (hFr 99) sMn ++ wFr K hFr sFr ++ wRo K hRo sRo) sz)) 0 0 (va_A (wMn K hMn rMn0 (hRo 99) rMn3 rMn4 rMn5 rMn6 rMn7 rMn8 rMn9 (hFr 99) sMn ++ wFr K hFr sFr ++ wRo K hRo sRo) sz) := by
  refine Met.ofW (cc := cX10_addParts) (maxL := 5) (ret := none) (by decide) rfl ?_
  intro p e s m args below meth c s₁ B hml hv
  obtain ⟨hargs, hsz, hP, hK, hD0⟩ := hv
  have hx := B.exec
  have hb := B.bytes
  have hr := B.returns
  have hts := atoms_spec (ws := wz_X10_addParts) B.pre
  have htl : ∀ w ∈ wsL_law, w.before args s = true := fun w h => hts w (List.mem_cons_of_mem _ h)
  have hown : s.vm.findClass RX10 = some m.cls := findClass_of_methodNamed B.named
  have hlocks := B.notSynchronized
  subst hsz
  have hD := hD0.self (sz := s.heap.size)
  generalize hAe : va_A (wMn K hMn rMn0 (hRo 99) rMn3 rMn4 rMn5 rMn6 rMn7 rMn8 rMn9 (hFr 99) sMn ++ wFr K hFr sFr ++ wRo K hRo sRo) s.heap.size = A at hD ⊢
  have hA : ∀ q : Nat, s.heap.size ≤ q → A q := fun q h => by rw [← hAe]; exact Or.inr h
  have hS : va_S A s.heap s.heap [] := va_S.rf
  have iX10 : ∀ w ∈ wsX100, w ∈ wz_X10_addParts := fun w h => List.mem_cons_of_mem _ (inlX10 w h)
  have iX9 : ∀ w ∈ wsX90, w ∈ wz_X10_addParts := fun w h => List.mem_cons_of_mem _ (inlX9 w h)
  suffices hgo : ∀ Q : State → Prop, Q = MQ below (va_Qv (fun u => u = res) (fun u t => BW D K A (wMn K hMn rMn0 (hRo 99) rMn3 rMn4 rMn5 rMn6 rMn7 rMn8 rMn9 (hFr 99) sMn ++ wFr K hFr u ++ wRo K hRo sRo) t) A) args s 0 0 A → W p l e (headSpec wz_X10_addParts r_X10_addParts).room s m args below meth c s.heap [] 0 0 Q (entryFrame m args 5) from hgo _ rfl
  intro Q hQ
  have w49 : ∀ (k12 : Int32 → MS → Option MS), (∀ (x4 : Int32), ∀ (sFr : MS), ∀ (H : Heap) (locs : List Loc) (ls : Array Slot), k12 x4 sFr = some res → va_P D vwCl (wMn K hMn rMn0 (hRo 99) rMn3 rMn4 rMn5 rMn6 rMn7 rMn8 rMn9 (hFr 99) sMn ++ wFr K hFr sFr ++ wRo K hRo sRo) H → va_D A (wMn K hMn rMn0 (hRo 99) rMn3 rMn4 rMn5 rMn6 rMn7 rMn8 rMn9 (hFr 99) sMn ++ wFr K hFr sFr ++ wRo K hRo sRo) → va_S A s.heap H locs → lv_has ls 5 [(0, .ref (hMn 99)), (1, .int p1), (3, .int p3), (4, .int x4)] → W p l e (headSpec wz_X10_addParts r_X10_addParts).room s m args below meth c H locs 0 0 Q (F0 m 12 ls [])) → ∀ (x4 : Int32), ∀ (y1 : Int64), ∀ (y2 : Int64), ∀ (sFr : MS), ∀ (H : Heap) (locs : List Loc) (ls : Array Slot), f_X10_addParts_49 F sMn sRo p1 p2 p3 k12 x4 y1 y2 sFr = some res → va_P D vwCl (wMn K hMn rMn0 (hRo 99) rMn3 rMn4 rMn5 rMn6 rMn7 rMn8 rMn9 (hFr 99) sMn ++ wFr K hFr sFr ++ wRo K hRo sRo) H → va_D A (wMn K hMn rMn0 (hRo 99) rMn3 rMn4 rMn5 rMn6 rMn7 rMn8 rMn9 (hFr 99) sMn ++ wFr K hFr sFr ++ wRo K hRo sRo) → va_S A s.heap H locs → lv_has ls 5 [(0, .ref (hMn 99)), (1, .int p1), (3, .int p3), (4, .int x4)] → W p l e (headSpec wz_X10_addParts r_X10_addParts).room s m args below meth c H locs 0 0 Q (F0 m 49 ls [.long y2, .long y1, .ref (hFr 99)]) := by
    intro k12 hk12 x4 y1 y2 sFr H locs ls hf hP hD hS hl
    unfold f_X10_addParts_49 at hf
    obtain ⟨o4, go4, hf⟩ := bd_s hf
    refine rk_Vv (wn := wMn K hMn rMn0 (hRo 99) rMn3 rMn4 rMn5 rMn6 rMn7 rMn8 rMn9 (hFr 99) sMn ++ wFr K hFr o4 ++ wRo K hRo sRo) [wMn K hMn rMn0 (hRo 99) rMn3 rMn4 rMn5 rMn6 rMn7 rMn8 rMn9 (hFr 99) sMn, wFr K hFr sFr, wRo K hRo sRo] [wFr K hFr sFr] [wFr K hFr o4] [wMn K hMn rMn0 (hRo 99) rMn3 rMn4 rMn5 rMn6 rMn7 rMn8 rMn9 (hFr 99) sMn, wFr K hFr o4, wRo K hRo sRo] (As := [.long y1, .long y2]) (rest := []) ⟨hx, hb, hml, hown, hts⟩ (c_X2_plus l D K F hFr H.size sFr y1 y2 o4 go4) (cwV 2 hts (gcV_X2_plus (mB53 _ (List.mem_of_getElem? (i := 0) rfl))) rfl rfl rfl hdV_X2_plus ⟨Nat.le_of_ble_eq_true rfl, Nat.le_of_ble_eq_true rfl⟩) hK hP hD hS hA [1] (fl3 _ _ _) rfl (by decide) (fl1 _) (fl1 _) rfl rfl (fl3 _ _ _) (va_recv hK hP (ci := 2) (q0 := (1 + 0)) rfl (rwl (rwr ln_Mn o_Fr))) rfl hl.1 rfl (Nat.le_of_ble_eq_true rfl) dX10_addParts_49 ⟨Nat.zero_le _, Nat.zero_le _⟩ (fun H locs hP hD hS => ?_)
    have hP : va_P D vwCl (wMn K hMn rMn0 (hRo 99) rMn3 rMn4 rMn5 rMn6 rMn7 rMn8 rMn9 (hFr 99) sMn ++ wFr K hFr o4 ++ wRo K hRo sRo) H := hP
    have hD : va_D A (wMn K hMn rMn0 (hRo 99) rMn3 rMn4 rMn5 rMn6 rMn7 rMn8 rMn9 (hFr 99) sMn ++ wFr K hFr o4 ++ wRo K hRo sRo) := hD
    obtain ⟨v5, ev5⟩ : ∃ z : Int32, z = x4 + (1 : Int32) := ⟨_, rfl⟩
    have hf := lz_s hf v5 ev5
    refine lv_iinc (v := v5) (lv' := [(4, .int v5), (0, .ref (hMn 99)), (1, .int p1), (3, .int p3)]) hx hb dX10_addParts_52 hl (k := 3) rfl (by rw [ev5]; rfl) (by decide) rfl (fun ls hl => ?_)
    refine lv_goto (tgt := 12) hx hb dX10_addParts_55 (by decide) ?_
    exact hk12 v5 o4 H locs ls hf hP hD hS (lv_sub hl [1, 2, 3, 0] rfl)
  have w12 : ∀ (n : Nat), ∀ (x4 : Int32), ∀ (sFr : MS), ∀ (H : Heap) (locs : List Loc) (ls : Array Slot), f_X10_addParts_12 F sMn sRo p1 p2 p3 n x4 sFr = some res → va_P D vwCl (wMn K hMn rMn0 (hRo 99) rMn3 rMn4 rMn5 rMn6 rMn7 rMn8 rMn9 (hFr 99) sMn ++ wFr K hFr sFr ++ wRo K hRo sRo) H → va_D A (wMn K hMn rMn0 (hRo 99) rMn3 rMn4 rMn5 rMn6 rMn7 rMn8 rMn9 (hFr 99) sMn ++ wFr K hFr sFr ++ wRo K hRo sRo) → va_S A s.heap H locs → lv_has ls 5 [(0, .ref (hMn 99)), (1, .int p1), (3, .int p3), (4, .int x4)] → W p l e (headSpec wz_X10_addParts r_X10_addParts).room s m args below meth c H locs 0 0 Q (F0 m 12 ls []) := by
    intro n
    induction n with
    | zero =>
      intro x4 sFr H locs ls hf
      exact absurd (show none = some res from hf) (fun h => nomatch h)
    | succ n ih =>
      intro x4 sFr H locs ls hf hP hD hS hl
      rw [f_X10_addParts_12] at hf
      refine lv_iload hx hb dX10_addParts_12 (lv_at hl 3 rfl) ?_
      refine lv_iload_n hx hb dX10_addParts_14 rfl (lv_at hl 2 rfl) ?_
      refine lv_icmp_gt (tgt := 58) hx hb dX10_addParts_15 (by decide) (fun c2 => ?_) (fun c2 => ?_)
      · have hf := it_t hf c2
        have e9 := Option.some.inj hf
        rw [hQ]
        exact W.vret hx hb hr (fun t ht hW => ⟨⟨sFr, rfl, e9, ⟨by rw [ht]; exact hP, va_K.moved hW.alike hK, hD⟩⟩, hS.F ht⟩) hS.2.2 dX10_addParts_58
      · have hf := it_f hf c2
        refine lv_aload_n hx hb dX10_addParts_18 rfl (lv_at hl 0 rfl) ?_
        refine va_get (D := D) (ci := 9) (v := .ref (hFr 99)) (C := RX10) (T := TX10) (N := 14) hx hb hts iX10 hown hK hP 0 (rwl (rwl o_Mn)) rfl 10 (by decide) (htl _ (mB2 _ (List.mem_of_getElem? (i := 23) rfl))) (fun _ h9 => h9) rfl dX10_addParts_19 ?_
        refine lv_aload_n hx hb dX10_addParts_22 rfl (lv_at hl 0 rfl) ?_
        refine va_get (D := D) (ci := 9) (v := .ref (hRo 99)) (C := RX10) (T := TX10) (N := 14) hx hb hts iX10 hown hK hP 0 (rwl (rwl o_Mn)) rfl 2 (by decide) (htl _ (mB1 _ (List.mem_of_getElem? (i := 18) rfl))) (fun _ h9 => h9) rfl dX10_addParts_23 ?_
        refine va_get (D := D) (ci := 8) (v := .int (sRo.1 0)) (C := RX9) (T := TX9) (N := 19) hx hb hts iX9 hown hK hP ((1 + 1) + 0) (rwr (lnA ln_Mn ln_Fr) o_Ro) rfl 0 (by decide) (htl _ (mB52 _ (List.mem_of_getElem? (i := 22) rfl))) (fun _ h9 => h9) rfl dX10_addParts_26 ?_
        refine lv_i2l (v := (sRo.1 0).toInt64) hx hb dX10_addParts_29 rfl ?_
        refine lv_iload_n hx hb dX10_addParts_30 rfl (lv_at hl 1 rfl) ?_
        refine lv_if_eq (tgt := 42) hx hb dX10_addParts_31 (by decide) (fun c3 => ?_) (fun c3 => ?_)
        · have hf := it_t hf c3
          refine lv_iconst (v := (2 : Int32)) hx hb dX10_addParts_42 (by decide) ?_
          refine lv_iload hx hb dX10_addParts_43 (lv_at hl 3 rfl) ?_
          refine lv_imul hx hb dX10_addParts_45 ?_
          refine lv_iconst (v := (1 : Int32)) hx hb dX10_addParts_46 (by decide) ?_
          refine lv_isub hx hb dX10_addParts_47 ?_
          refine lv_i2l (v := (((2 : Int32) * x4) - (1 : Int32)).toInt64) hx hb dX10_addParts_48 rfl ?_
          exact w49 (f_X10_addParts_12 F sMn sRo p1 p2 p3 n) ih x4 ((sRo.1 0).toInt64) ((((2 : Int32) * x4) - (1 : Int32)).toInt64) sFr H locs ls hf hP hD hS (lv_sub hl [0, 1, 2, 3] rfl)
        · have hf := it_f hf c3
          refine lv_iconst (v := (2 : Int32)) hx hb dX10_addParts_34 (by decide) ?_
          refine lv_iload hx hb dX10_addParts_35 (lv_at hl 3 rfl) ?_
          refine lv_imul hx hb dX10_addParts_37 ?_
          refine lv_i2l (v := ((2 : Int32) * x4).toInt64) hx hb dX10_addParts_38 rfl ?_
          refine lv_goto (tgt := 49) hx hb dX10_addParts_39 (by decide) ?_
          exact w49 (f_X10_addParts_12 F sMn sRo p1 p2 p3 n) ih x4 ((sRo.1 0).toInt64) (((2 : Int32) * x4).toInt64) sFr H locs ls hf hP hD hS (lv_sub hl [0, 1, 2, 3] rfl)
  have hen : entryFrame m args 5 = entryFrame m (([.ref (hMn 99), .int p1, .int p2, .int p3] : List Value).toArray) 5 := by rw [hargs]
  have hl := lv_entry ([.ref (hMn 99), .int p1, .int p2, .int p3]) (n := 5) (Nat.le_of_ble_eq_true rfl)
  rw [hen, lg_entry_eq]
  generalize (lg_sl ([.ref (hMn 99), .int p1, .int p2, .int p3]) ++ List.replicate (5 - (lg_sl ([.ref (hMn 99), .int p1, .int p2, .int p3])).length) Slot.unset).toArray = ls at hl ⊢
  have hl : lv_has ls 5 [(0, .ref (hMn 99)), (1, .int p1), (2, .int p2), (3, .int p3)] := hl
  unfold f_X10_addParts at hf
  obtain ⟨H, hHe⟩ : ∃ z, z = s.heap := ⟨_, rfl⟩
  obtain ⟨locs, hLe⟩ : ∃ z : List Loc, z = [] := ⟨_, rfl⟩
  rw [← hLe]
  have hS : va_S A s.heap H locs := by rw [hHe, hLe]; exact hS
  have hP : va_P D vwCl (wMn K hMn rMn0 (hRo 99) rMn3 rMn4 rMn5 rMn6 rMn7 rMn8 rMn9 (hFr 99) sMn ++ wFr K hFr sFr ++ wRo K hRo sRo) H := by rw [hHe]; exact hP
  have hgo : W p l e (headSpec wz_X10_addParts r_X10_addParts).room s m args below meth c H locs 0 0 Q (F0 m 0 ls []) := by
    refine lv_aload_n hx hb dX10_addParts_0 rfl (lv_at hl 0 rfl) ?_
    refine va_get (D := D) (ci := 9) (v := .ref (hFr 99)) (C := RX10) (T := TX10) (N := 14) hx hb hts iX10 hown hK hP 0 (rwl (rwl o_Mn)) rfl 10 (by decide) (htl _ (mB2 _ (List.mem_of_getElem? (i := 23) rfl))) (fun _ h9 => h9) rfl dX10_addParts_1 ?_
    refine lv_lconst (v := (0 : Int64)) hx hb dX10_addParts_4 (by decide) ?_
    refine lv_lconst (v := (1 : Int64)) hx hb dX10_addParts_5 (by decide) ?_
    obtain ⟨o1, go1, hf⟩ := bd_s hf
    refine rk_Vv (wn := wMn K hMn rMn0 (hRo 99) rMn3 rMn4 rMn5 rMn6 rMn7 rMn8 rMn9 (hFr 99) sMn ++ wFr K hFr o1 ++ wRo K hRo sRo) [wMn K hMn rMn0 (hRo 99) rMn3 rMn4 rMn5 rMn6 rMn7 rMn8 rMn9 (hFr 99) sMn, wFr K hFr sFr, wRo K hRo sRo] [wFr K hFr sFr] [wFr K hFr o1] [wMn K hMn rMn0 (hRo 99) rMn3 rMn4 rMn5 rMn6 rMn7 rMn8 rMn9 (hFr 99) sMn, wFr K hFr o1, wRo K hRo sRo] (As := [.long (0 : Int64), .long (1 : Int64)]) (rest := []) ⟨hx, hb, hml, hown, hts⟩ (c_X2_become l D K F hFr H.size sFr (0 : Int64) (1 : Int64) o1 go1) (cwV 2 hts (gcV_X2_become (mB52 _ (List.mem_of_getElem? (i := 23) rfl))) rfl rfl rfl hdV_X2_become ⟨Nat.le_of_ble_eq_true rfl, Nat.le_of_ble_eq_true rfl⟩) hK hP hD hS hA [1] (fl3 _ _ _) rfl (by decide) (fl1 _) (fl1 _) rfl rfl (fl3 _ _ _) (va_recv hK hP (ci := 2) (q0 := (1 + 0)) rfl (rwl (rwr ln_Mn o_Fr))) rfl hl.1 rfl (Nat.le_of_ble_eq_true rfl) dX10_addParts_6 ⟨Nat.zero_le _, Nat.zero_le _⟩ (fun H locs hP hD hS => ?_)
    have hP : va_P D vwCl (wMn K hMn rMn0 (hRo 99) rMn3 rMn4 rMn5 rMn6 rMn7 rMn8 rMn9 (hFr 99) sMn ++ wFr K hFr o1 ++ wRo K hRo sRo) H := hP
    have hD : va_D A (wMn K hMn rMn0 (hRo 99) rMn3 rMn4 rMn5 rMn6 rMn7 rMn8 rMn9 (hFr 99) sMn ++ wFr K hFr o1 ++ wRo K hRo sRo) := hD
    refine lv_iload_n hx hb dX10_addParts_9 rfl (lv_at hl 2 rfl) ?_
    refine lv_istore (lv' := [(4, .int p2), (0, .ref (hMn 99)), (1, .int p1), (2, .int p2), (3, .int p3)]) hx hb dX10_addParts_10 hl (by decide) rfl (fun ls hl => ?_)
    exact w12 F p2 o1 H locs ls hf hP hD hS (lv_sub hl [1, 2, 4, 0] rfl)
  rw [hHe] at hgo
  exact hgo

theorem gcV_X10_addParts {T0 : Cond} {own : String} {i : Nat} (h : Cond.methodLink own i yX10_addParts ∈ wsL_law) : GoodIn (T0 :: wsL_law) (wsV own i RX10 yX10_addParts wz_X10_addParts) := gV h (mB52 _ (List.mem_of_getElem? (i := 19) rfl)) (mB52 _ (List.mem_of_getElem? (i := 20) rfl)) (mB1 _ (List.mem_of_getElem? (i := 2) rfl)) (mB52 _ (List.mem_of_getElem? (i := 21) rfl))
theorem hdV_X10_addParts : yX10_addParts.cls = RX10 ∧ yX10_addParts.cls ≠ "java/lang/invoke/MethodHandle" ∧ yX10_addParts.cls ≠ "java/lang/invoke/VarHandle" ∧ (parseMethodDescriptor yX10_addParts.desc).map (fun d => d.parameters.length) = some 3 := by decide +kernel
def wz_X10_far : List Cond := .code yX10_far cX10_far 4 (some .long) :: wsL_law
abbrev r_X10_far : Room := { frames := 4, cells := 0, slots := 0, locals := 104 }
set_option maxHeartbeats 4000000 in
set_option maxRecDepth 100000 in
theorem c_X10_far (l : Launch) (D : va_G) (K : Nat → ClassId) (F : Nat) (hMn : Nat → Nat) (rMn0 : Nat) (rMn3 : Nat) (rMn4 : Nat) (rMn5 : Nat) (rMn6 : Nat) (rMn7 : Nat) (rMn8 : Nat) (rMn9 : Nat) (hFr : Nat → Nat) (hRo : Nat → Nat) (sz : Nat) (sMn : MS) (sFr : MS) (sRo : MS) (p1 : Int32) (p2 : Int32) (p3 : Int32) (res : Int64 × MS × MS) (hf : f_X10_far F sRo p1 p2 p3 sMn sFr = some res) : Met l yX10_far wz_X10_far r_X10_far (va_Pc [.ref (hMn 99), .int p1, .int p2, .int p3] (PW D K (wMn K hMn rMn0 (hRo 99) rMn3 rMn4 rMn5 rMn6 rMn7 rMn8 rMn9 (hFr 99) sMn ++ wFr K hFr sFr ++ wRo K hRo sRo) sz)) (va_Ql (fun r u => r = res.1 ∧ u = res.2) (fun u t => BW D K (va_A (wMn K hMn rMn0 (hRo 99) rMn3 rMn4 rMn5 rMn6 rMn7 rMn8 rMn9 (hFr 99) sMn ++ wFr K hFr sFr ++ wRo K hRo sRo) sz) (wMn K hMn rMn0 (hRo 99) rMn3 rMn4 rMn5 rMn6 rMn7 rMn8 rMn9 (hFr 99) u.1 ++ wFr K hFr u.2 ++ wRo K hRo sRo) t) (va_A (wMn K hMn rMn0 (hRo 99) rMn3 rMn4 rMn5 rMn6 rMn7 rMn8 rMn9 (hFr 99) sMn ++ wFr K hFr sFr ++ wRo K hRo sRo) sz)) 0 0 (va_A (wMn K hMn rMn0 (hRo 99) rMn3 rMn4 rMn5 rMn6 rMn7 rMn8 rMn9 (hFr 99) sMn ++ wFr K hFr sFr ++ wRo K hRo sRo) sz) := by
  refine Met.ofW (cc := cX10_far) (maxL := 4) (ret := (some .long)) (by decide) rfl ?_
  intro p e s m args below meth c s₁ B hml hv
  obtain ⟨hargs, hsz, hP, hK, hD0⟩ := hv
  have hx := B.exec
  have hb := B.bytes
  have hr := B.returns
  have hts := atoms_spec (ws := wz_X10_far) B.pre
  have htl : ∀ w ∈ wsL_law, w.before args s = true := fun w h => hts w (List.mem_cons_of_mem _ h)
  have hown : s.vm.findClass RX10 = some m.cls := findClass_of_methodNamed B.named
  have hlocks := B.notSynchronized
  subst hsz
  have hD := hD0.self (sz := s.heap.size)
  generalize hAe : va_A (wMn K hMn rMn0 (hRo 99) rMn3 rMn4 rMn5 rMn6 rMn7 rMn8 rMn9 (hFr 99) sMn ++ wFr K hFr sFr ++ wRo K hRo sRo) s.heap.size = A at hD ⊢
  have hA : ∀ q : Nat, s.heap.size ≤ q → A q := fun q h => by rw [← hAe]; exact Or.inr h
  have hS : va_S A s.heap s.heap [] := va_S.rf
  have iX10 : ∀ w ∈ wsX100, w ∈ wz_X10_far := fun w h => List.mem_cons_of_mem _ (inlX10 w h)
  suffices hgo : ∀ Q : State → Prop, Q = MQ below (va_Ql (fun r u => r = res.1 ∧ u = res.2) (fun u t => BW D K A (wMn K hMn rMn0 (hRo 99) rMn3 rMn4 rMn5 rMn6 rMn7 rMn8 rMn9 (hFr 99) u.1 ++ wFr K hFr u.2 ++ wRo K hRo sRo) t) A) args s 0 0 A → W p l e (headSpec wz_X10_far r_X10_far).room s m args below meth c s.heap [] 0 0 Q (entryFrame m args 4) from hgo _ rfl
  intro Q hQ
  have w28 : ∀ (sMn : MS), ∀ (sFr : MS), ∀ (H : Heap) (locs : List Loc) (ls : Array Slot), f_X10_far_28 F sRo p1 p2 p3 sMn sFr = some res → va_P D vwCl (wMn K hMn rMn0 (hRo 99) rMn3 rMn4 rMn5 rMn6 rMn7 rMn8 rMn9 (hFr 99) sMn ++ wFr K hFr sFr ++ wRo K hRo sRo) H → va_D A (wMn K hMn rMn0 (hRo 99) rMn3 rMn4 rMn5 rMn6 rMn7 rMn8 rMn9 (hFr 99) sMn ++ wFr K hFr sFr ++ wRo K hRo sRo) → va_S A s.heap H locs → lv_has ls 4 [(0, .ref (hMn 99))] → W p l e (headSpec wz_X10_far r_X10_far).room s m args below meth c H locs 0 0 Q (F0 m 28 ls []) := by
    intro sMn sFr H locs ls hf hP hD hS hl
    unfold f_X10_far_28 at hf
    refine lv_aload_n hx hb dX10_far_28 rfl (lv_at hl 0 rfl) ?_
    refine lv_iconst (v := (2 : Int32)) hx hb dX10_far_29 (by decide) ?_
    obtain ⟨o8, go8, hf⟩ := bd_s hf
    refine rk_Vi (wn := wMn K hMn rMn0 (hRo 99) rMn3 rMn4 rMn5 rMn6 rMn7 rMn8 rMn9 (hFr 99) o8.2 ++ wFr K hFr sFr ++ wRo K hRo sRo) [wMn K hMn rMn0 (hRo 99) rMn3 rMn4 rMn5 rMn6 rMn7 rMn8 rMn9 (hFr 99) sMn, wFr K hFr sFr, wRo K hRo sRo] [wMn K hMn rMn0 (hRo 99) rMn3 rMn4 rMn5 rMn6 rMn7 rMn8 rMn9 (hFr 99) sMn] [wMn K hMn rMn0 (hRo 99) rMn3 rMn4 rMn5 rMn6 rMn7 rMn8 rMn9 (hFr 99) o8.2] [wMn K hMn rMn0 (hRo 99) rMn3 rMn4 rMn5 rMn6 rMn7 rMn8 rMn9 (hFr 99) o8.2, wFr K hFr sFr, wRo K hRo sRo] (As := [.int (2 : Int32)]) (rest := []) ⟨hx, hb, hml, hown, hts⟩ (c_X10_refuse l D K F hMn rMn0 (hRo 99) rMn3 rMn4 rMn5 rMn6 rMn7 rMn8 rMn9 (hFr 99) H.size sMn (2 : Int32) o8 go8) (cwV 1 hts (gcV_X10_refuse (mB7 _ (List.mem_of_getElem? (i := 18) rfl))) rfl rfl rfl hdV_X10_refuse ⟨Nat.le_of_ble_eq_true rfl, Nat.le_of_ble_eq_true rfl⟩) hK hP hD hS hA [0] (fl3 _ _ _) rfl (by decide) (fl1 _) (fl1 _) rfl rfl (fl3 _ _ _) (va_recv hK hP (ci := 9) (q0 := 0) rfl (rwl (rwl o_Mn))) rfl hl.1 rfl (Nat.le_of_ble_eq_true rfl) dX10_far_30 ⟨Nat.zero_le _, Nat.zero_le _⟩ (fun H locs hP hD hS => ?_)
    have hP : va_P D vwCl (wMn K hMn rMn0 (hRo 99) rMn3 rMn4 rMn5 rMn6 rMn7 rMn8 rMn9 (hFr 99) o8.2 ++ wFr K hFr sFr ++ wRo K hRo sRo) H := hP
    have hD : va_D A (wMn K hMn rMn0 (hRo 99) rMn3 rMn4 rMn5 rMn6 rMn7 rMn8 rMn9 (hFr 99) o8.2 ++ wFr K hFr sFr ++ wRo K hRo sRo) := hD
    refine lv_i2l (v := o8.1.toInt64) hx hb dX10_far_33 rfl ?_
    have e9 := Option.some.inj hf
    rw [hQ]
    exact W.lret (v := o8.1.toInt64) hx hb hr (fun t ht hW => ⟨⟨o8.1.toInt64, (o8.2, sFr), rfl, ⟨pr1 e9, pr2 e9⟩, ⟨by rw [ht]; exact hP, va_K.moved hW.alike hK, hD⟩⟩, hS.F ht⟩) hS.2.2 dX10_far_34
  have hen : entryFrame m args 4 = entryFrame m (([.ref (hMn 99), .int p1, .int p2, .int p3] : List Value).toArray) 4 := by rw [hargs]
  have hl := lv_entry ([.ref (hMn 99), .int p1, .int p2, .int p3]) (n := 4) (Nat.le_of_ble_eq_true rfl)
  rw [hen, lg_entry_eq]
  generalize (lg_sl ([.ref (hMn 99), .int p1, .int p2, .int p3]) ++ List.replicate (4 - (lg_sl ([.ref (hMn 99), .int p1, .int p2, .int p3])).length) Slot.unset).toArray = ls at hl ⊢
  have hl : lv_has ls 4 [(0, .ref (hMn 99)), (1, .int p1), (2, .int p2), (3, .int p3)] := hl
  unfold f_X10_far at hf
  obtain ⟨H, hHe⟩ : ∃ z, z = s.heap := ⟨_, rfl⟩
  obtain ⟨locs, hLe⟩ : ∃ z : List Loc, z = [] := ⟨_, rfl⟩
  rw [← hLe]
  have hS : va_S A s.heap H locs := by rw [hHe, hLe]; exact hS
  have hP : va_P D vwCl (wMn K hMn rMn0 (hRo 99) rMn3 rMn4 rMn5 rMn6 rMn7 rMn8 rMn9 (hFr 99) sMn ++ wFr K hFr sFr ++ wRo K hRo sRo) H := by rw [hHe]; exact hP
  have hgo : W p l e (headSpec wz_X10_far r_X10_far).room s m args below meth c H locs 0 0 Q (F0 m 0 ls []) := by
    refine lv_aload_n hx hb dX10_far_0 rfl (lv_at hl 0 rfl) ?_
    refine va_get (D := D) (ci := 9) (v := .ref (hRo 99)) (C := RX10) (T := TX10) (N := 14) hx hb hts iX10 hown hK hP 0 (rwl (rwl o_Mn)) rfl 2 (by decide) (htl _ (mB1 _ (List.mem_of_getElem? (i := 18) rfl))) (fun _ h9 => h9) rfl dX10_far_1 ?_
    obtain ⟨o1, go1, hf⟩ := bd_s hf
    refine ro_Vi (As := []) (rest := []) ⟨hx, hb, hml, hown, hts⟩ (c_X9_isTold l D K F hRo sRo o1 go1) (cwV 0 hts (gcV_X9_isTold (mB30 _ (List.mem_of_getElem? (i := 0) rfl))) rfl rfl rfl hdV_X9_isTold ⟨Nat.le_of_ble_eq_true rfl, Nat.le_of_ble_eq_true rfl⟩) hK hP hS (va_PL (cs := [wMn K hMn rMn0 (hRo 99) rMn3 rMn4 rMn5 rMn6 rMn7 rMn8 rMn9 (hFr 99) sMn, wFr K hFr sFr, wRo K hRo sRo]) (cc := [wRo K hRo sRo]) hP (fl3 _ _ _) [2] rfl (fl1 _)) (va_recv hK hP (ci := 8) (q0 := ((1 + 1) + 0)) rfl (rwr (lnA ln_Mn ln_Fr) o_Ro)) rfl hl.1 rfl (Nat.le_of_ble_eq_true rfl) dX10_far_4 ⟨Nat.zero_le _, Nat.zero_le _⟩ (fun H locs hP hS => ?_)
    refine lv_if_ne (tgt := 17) hx hb dX10_far_7 (by decide) (fun c2 => ?_) (fun c2 => ?_)
    · have hf := it_f hf c2
      refine lv_iload_n hx hb dX10_far_17 rfl (lv_at hl 1 rfl) ?_
      refine lv_iconst (v := (1 : Int32)) hx hb dX10_far_18 (by decide) ?_
      refine lv_icmp_lt (tgt := 28) hx hb dX10_far_19 (by decide) (fun c3 => ?_) (fun c3 => ?_)
      · have hf := it_t hf c3
        exact w28 sMn sFr H locs ls hf hP hD hS (lv_sub hl [0] rfl)
      · have hf := it_f hf c3
        refine lv_iload_n hx hb dX10_far_22 rfl (lv_at hl 1 rfl) ?_
        refine lv_bipush (v := (12 : Int32)) hx hb dX10_far_23 (by decide) ?_
        refine lv_icmp_le (tgt := 35) hx hb dX10_far_25 (by decide) (fun c4 => ?_) (fun c4 => ?_)
        · have hf := it_t hf c4
          refine lv_aload_n hx hb dX10_far_35 rfl (lv_at hl 0 rfl) ?_
          refine lv_iload_n hx hb dX10_far_36 rfl (lv_at hl 2 rfl) ?_
          refine lv_iconst (v := (1 : Int32)) hx hb dX10_far_37 (by decide) ?_
          refine lv_iload_n hx hb dX10_far_38 rfl (lv_at hl 1 rfl) ?_
          obtain ⟨o5, go5, hf⟩ := bd_s hf
          refine rs_Vv (As := [.int p2, .int (1 : Int32), .int p1]) (rest := []) ⟨hx, hb, hml, hown, hts⟩ (c_X10_addParts l D K F hMn rMn0 rMn3 rMn4 rMn5 rMn6 rMn7 rMn8 rMn9 hFr hRo H.size sMn sFr sRo p2 (1 : Int32) p1 o5 go5) (cwV 3 hts (gcV_X10_addParts (mB52 _ (List.mem_of_getElem? (i := 18) rfl))) rfl rfl rfl hdV_X10_addParts ⟨Nat.le_of_ble_eq_true rfl, Nat.le_of_ble_eq_true rfl⟩) hK hP hD hS hA (va_recv hK hP (ci := 9) (q0 := 0) rfl (rwl (rwl o_Mn))) rfl hl.1 rfl (Nat.le_of_ble_eq_true rfl) dX10_far_39 ⟨Nat.zero_le _, Nat.zero_le _⟩ (fun H locs hP hD hS => ?_)
          have hP : va_P D vwCl (wMn K hMn rMn0 (hRo 99) rMn3 rMn4 rMn5 rMn6 rMn7 rMn8 rMn9 (hFr 99) sMn ++ wFr K hFr o5 ++ wRo K hRo sRo) H := hP
          have hD : va_D A (wMn K hMn rMn0 (hRo 99) rMn3 rMn4 rMn5 rMn6 rMn7 rMn8 rMn9 (hFr 99) sMn ++ wFr K hFr o5 ++ wRo K hRo sRo) := hD
          refine lv_aload_n hx hb dX10_far_42 rfl (lv_at hl 0 rfl) ?_
          refine lv_iload_n hx hb dX10_far_43 rfl (lv_at hl 3 rfl) ?_
          obtain ⟨o6, go6, hf⟩ := bd_s hf
          refine rk_Vl (wn := wMn K hMn rMn0 (hRo 99) rMn3 rMn4 rMn5 rMn6 rMn7 rMn8 rMn9 (hFr 99) o6.2 ++ wFr K hFr o5 ++ wRo K hRo sRo) [wMn K hMn rMn0 (hRo 99) rMn3 rMn4 rMn5 rMn6 rMn7 rMn8 rMn9 (hFr 99) sMn, wFr K hFr o5, wRo K hRo sRo] [wMn K hMn rMn0 (hRo 99) rMn3 rMn4 rMn5 rMn6 rMn7 rMn8 rMn9 (hFr 99) sMn, wFr K hFr o5] [wMn K hMn rMn0 (hRo 99) rMn3 rMn4 rMn5 rMn6 rMn7 rMn8 rMn9 (hFr 99) o6.2, wFr K hFr o5] [wMn K hMn rMn0 (hRo 99) rMn3 rMn4 rMn5 rMn6 rMn7 rMn8 rMn9 (hFr 99) o6.2, wFr K hFr o5, wRo K hRo sRo] (As := [.int p3]) (rest := []) ⟨hx, hb, hml, hown, hts⟩ (c_X10_acceptFraction l D K F hMn rMn0 (hRo 99) rMn3 rMn4 rMn5 rMn6 rMn7 rMn8 rMn9 hFr H.size sMn o5 p3 o6 go6) (cwV 1 hts (gcV_X10_acceptFraction (mB44 _ (List.mem_of_getElem? (i := 5) rfl))) rfl rfl rfl hdV_X10_acceptFraction ⟨Nat.le_of_ble_eq_true rfl, Nat.le_of_ble_eq_true rfl⟩) hK hP hD hS hA [0, 1] (fl3 _ _ _) rfl (by decide) (fl2 _ _) (fl2 _ _) rfl rfl (fl3 _ _ _) (va_recv hK hP (ci := 9) (q0 := 0) rfl (rwl (rwl o_Mn))) rfl hl.1 rfl (Nat.le_of_ble_eq_true rfl) dX10_far_44 ⟨Nat.zero_le _, Nat.zero_le _⟩ (fun H locs hP hD hS => ?_)
          have hP : va_P D vwCl (wMn K hMn rMn0 (hRo 99) rMn3 rMn4 rMn5 rMn6 rMn7 rMn8 rMn9 (hFr 99) o6.2 ++ wFr K hFr o5 ++ wRo K hRo sRo) H := hP
          have hD : va_D A (wMn K hMn rMn0 (hRo 99) rMn3 rMn4 rMn5 rMn6 rMn7 rMn8 rMn9 (hFr 99) o6.2 ++ wFr K hFr o5 ++ wRo K hRo sRo) := hD
          have e9 := Option.some.inj hf
          rw [hQ]
          exact W.lret (v := o6.1) hx hb hr (fun t ht hW => ⟨⟨o6.1, (o6.2, o5), rfl, ⟨pr1 e9, pr2 e9⟩, ⟨by rw [ht]; exact hP, va_K.moved hW.alike hK, hD⟩⟩, hS.F ht⟩) hS.2.2 dX10_far_47
        · have hf := it_f hf c4
          exact w28 sMn sFr H locs ls hf hP hD hS (lv_sub hl [0] rfl)
    · have hf := it_t hf c2
      refine lv_aload_n hx hb dX10_far_10 rfl (lv_at hl 0 rfl) ?_
      refine lv_iconst (v := (1 : Int32)) hx hb dX10_far_11 (by decide) ?_
      obtain ⟨o7, go7, hf⟩ := bd_s hf
      refine rk_Vi (wn := wMn K hMn rMn0 (hRo 99) rMn3 rMn4 rMn5 rMn6 rMn7 rMn8 rMn9 (hFr 99) o7.2 ++ wFr K hFr sFr ++ wRo K hRo sRo) [wMn K hMn rMn0 (hRo 99) rMn3 rMn4 rMn5 rMn6 rMn7 rMn8 rMn9 (hFr 99) sMn, wFr K hFr sFr, wRo K hRo sRo] [wMn K hMn rMn0 (hRo 99) rMn3 rMn4 rMn5 rMn6 rMn7 rMn8 rMn9 (hFr 99) sMn] [wMn K hMn rMn0 (hRo 99) rMn3 rMn4 rMn5 rMn6 rMn7 rMn8 rMn9 (hFr 99) o7.2] [wMn K hMn rMn0 (hRo 99) rMn3 rMn4 rMn5 rMn6 rMn7 rMn8 rMn9 (hFr 99) o7.2, wFr K hFr sFr, wRo K hRo sRo] (As := [.int (1 : Int32)]) (rest := []) ⟨hx, hb, hml, hown, hts⟩ (c_X10_refuse l D K F hMn rMn0 (hRo 99) rMn3 rMn4 rMn5 rMn6 rMn7 rMn8 rMn9 (hFr 99) H.size sMn (1 : Int32) o7 go7) (cwV 1 hts (gcV_X10_refuse (mB7 _ (List.mem_of_getElem? (i := 18) rfl))) rfl rfl rfl hdV_X10_refuse ⟨Nat.le_of_ble_eq_true rfl, Nat.le_of_ble_eq_true rfl⟩) hK hP hD hS hA [0] (fl3 _ _ _) rfl (by decide) (fl1 _) (fl1 _) rfl rfl (fl3 _ _ _) (va_recv hK hP (ci := 9) (q0 := 0) rfl (rwl (rwl o_Mn))) rfl hl.1 rfl (Nat.le_of_ble_eq_true rfl) dX10_far_12 ⟨Nat.zero_le _, Nat.zero_le _⟩ (fun H locs hP hD hS => ?_)
      have hP : va_P D vwCl (wMn K hMn rMn0 (hRo 99) rMn3 rMn4 rMn5 rMn6 rMn7 rMn8 rMn9 (hFr 99) o7.2 ++ wFr K hFr sFr ++ wRo K hRo sRo) H := hP
      have hD : va_D A (wMn K hMn rMn0 (hRo 99) rMn3 rMn4 rMn5 rMn6 rMn7 rMn8 rMn9 (hFr 99) o7.2 ++ wFr K hFr sFr ++ wRo K hRo sRo) := hD
      refine lv_i2l (v := o7.1.toInt64) hx hb dX10_far_15 rfl ?_
      have e9 := Option.some.inj hf
      rw [hQ]
      exact W.lret (v := o7.1.toInt64) hx hb hr (fun t ht hW => ⟨⟨o7.1.toInt64, (o7.2, sFr), rfl, ⟨pr1 e9, pr2 e9⟩, ⟨by rw [ht]; exact hP, va_K.moved hW.alike hK, hD⟩⟩, hS.F ht⟩) hS.2.2 dX10_far_16
  rw [hHe] at hgo
  exact hgo

def wz_X10_fewestLoads : List Cond := .code yX10_fewestLoads cX10_fewestLoads 4 (some .int) :: wsL_law
abbrev r_X10_fewestLoads : Room := { frames := 4, cells := 0, slots := 0, locals := 104 }
set_option maxHeartbeats 4000000 in
set_option maxRecDepth 100000 in
theorem c_X10_fewestLoads (l : Launch) (D : va_G) (K : Nat → ClassId) (F : Nat) (hMn : Nat → Nat) (rMn0 : Nat) (rMn3 : Nat) (rMn4 : Nat) (rMn5 : Nat) (rMn6 : Nat) (rMn7 : Nat) (rMn8 : Nat) (rMn9 : Nat) (hFr : Nat → Nat) (hRo : Nat → Nat) (sz : Nat) (sMn : MS) (sFr : MS) (sRo : MS) (p1 : Int32) (p2 : Int32) (res : Int32 × MS) (hf : f_X10_fewestLoads F sMn sRo p1 p2 sFr = some res) : Met l yX10_fewestLoads wz_X10_fewestLoads r_X10_fewestLoads (va_Pc [.ref (hMn 99), .int p1, .int p2] (PW D K (wMn K hMn rMn0 (hRo 99) rMn3 rMn4 rMn5 rMn6 rMn7 rMn8 rMn9 (hFr 99) sMn ++ wFr K hFr sFr ++ wRo K hRo sRo) sz)) (va_Qi (fun r u => r = res.1 ∧ u = res.2) (fun u t => BW D K (va_A (wMn K hMn rMn0 (hRo 99) rMn3 rMn4 rMn5 rMn6 rMn7 rMn8 rMn9 (hFr 99) sMn ++ wFr K hFr sFr ++ wRo K hRo sRo) sz) (wMn K hMn rMn0 (hRo 99) rMn3 rMn4 rMn5 rMn6 rMn7 rMn8 rMn9 (hFr 99) sMn ++ wFr K hFr u ++ wRo K hRo sRo) t) (va_A (wMn K hMn rMn0 (hRo 99) rMn3 rMn4 rMn5 rMn6 rMn7 rMn8 rMn9 (hFr 99) sMn ++ wFr K hFr sFr ++ wRo K hRo sRo) sz)) 0 0 (va_A (wMn K hMn rMn0 (hRo 99) rMn3 rMn4 rMn5 rMn6 rMn7 rMn8 rMn9 (hFr 99) sMn ++ wFr K hFr sFr ++ wRo K hRo sRo) sz) := by
  refine Met.ofW (cc := cX10_fewestLoads) (maxL := 4) (ret := (some .int)) (by decide) rfl ?_
  intro p e s m args below meth c s₁ B hml hv
  obtain ⟨hargs, hsz, hP, hK, hD0⟩ := hv
  have hx := B.exec
  have hb := B.bytes
  have hr := B.returns
  have hts := atoms_spec (ws := wz_X10_fewestLoads) B.pre
  have htl : ∀ w ∈ wsL_law, w.before args s = true := fun w h => hts w (List.mem_cons_of_mem _ h)
  have hown : s.vm.findClass RX10 = some m.cls := findClass_of_methodNamed B.named
  have hlocks := B.notSynchronized
  subst hsz
  have hD := hD0.self (sz := s.heap.size)
  generalize hAe : va_A (wMn K hMn rMn0 (hRo 99) rMn3 rMn4 rMn5 rMn6 rMn7 rMn8 rMn9 (hFr 99) sMn ++ wFr K hFr sFr ++ wRo K hRo sRo) s.heap.size = A at hD ⊢
  have hA : ∀ q : Nat, s.heap.size ≤ q → A q := fun q h => by rw [← hAe]; exact Or.inr h
  have hS : va_S A s.heap s.heap [] := va_S.rf
  have iX10 : ∀ w ∈ wsX100, w ∈ wz_X10_fewestLoads := fun w h => List.mem_cons_of_mem _ (inlX10 w h)
  have iX2 : ∀ w ∈ wsX20, w ∈ wz_X10_fewestLoads := fun w h => List.mem_cons_of_mem _ (inlX2 w h)
  suffices hgo : ∀ Q : State → Prop, Q = MQ below (va_Qi (fun r u => r = res.1 ∧ u = res.2) (fun u t => BW D K A (wMn K hMn rMn0 (hRo 99) rMn3 rMn4 rMn5 rMn6 rMn7 rMn8 rMn9 (hFr 99) sMn ++ wFr K hFr u ++ wRo K hRo sRo) t) A) args s 0 0 A → W p l e (headSpec wz_X10_fewestLoads r_X10_fewestLoads).room s m args below meth c s.heap [] 0 0 Q (entryFrame m args 4) from hgo _ rfl
  intro Q hQ
  have w2 : ∀ (n : Nat), ∀ (x3 : Int32), ∀ (sFr : MS), ∀ (H : Heap) (locs : List Loc) (ls : Array Slot), f_X10_fewestLoads_2 F sMn sRo p1 p2 n x3 sFr = some res → va_P D vwCl (wMn K hMn rMn0 (hRo 99) rMn3 rMn4 rMn5 rMn6 rMn7 rMn8 rMn9 (hFr 99) sMn ++ wFr K hFr sFr ++ wRo K hRo sRo) H → va_D A (wMn K hMn rMn0 (hRo 99) rMn3 rMn4 rMn5 rMn6 rMn7 rMn8 rMn9 (hFr 99) sMn ++ wFr K hFr sFr ++ wRo K hRo sRo) → va_S A s.heap H locs → lv_has ls 4 [(0, .ref (hMn 99)), (1, .int p1), (2, .int p2), (3, .int x3)] → W p l e (headSpec wz_X10_fewestLoads r_X10_fewestLoads).room s m args below meth c H locs 0 0 Q (F0 m 2 ls []) := by
    intro n
    induction n with
    | zero =>
      intro x3 sFr H locs ls hf
      exact absurd (show none = some res from hf) (fun h => nomatch h)
    | succ n ih =>
      intro x3 sFr H locs ls hf hP hD hS hl
      rw [f_X10_fewestLoads_2] at hf
      refine lv_iload_n hx hb dX10_fewestLoads_2 rfl (lv_at hl 3 rfl) ?_
      refine lv_bipush (v := (12 : Int32)) hx hb dX10_fewestLoads_3 (by decide) ?_
      refine lv_icmp_gt (tgt := 44) hx hb dX10_fewestLoads_5 (by decide) (fun c1 => ?_) (fun c1 => ?_)
      · have hf := it_t hf c1
        refine lv_bipush (v := (-2 : Int32)) hx hb dX10_fewestLoads_44 (by decide) ?_
        have e9 := Option.some.inj hf
        rw [hQ]
        exact W.iret (v := (-2 : Int32)) hx hb hr (fun t ht hW => ⟨⟨(-2 : Int32), sFr, rfl, ⟨pr1 e9, pr2 e9⟩, ⟨by rw [ht]; exact hP, va_K.moved hW.alike hK, hD⟩⟩, hS.F ht⟩) hS.2.2 dX10_fewestLoads_46
      · have hf := it_f hf c1
        refine lv_aload_n hx hb dX10_fewestLoads_8 rfl (lv_at hl 0 rfl) ?_
        refine lv_iload_n hx hb dX10_fewestLoads_9 rfl (lv_at hl 2 rfl) ?_
        refine lv_iconst (v := (1 : Int32)) hx hb dX10_fewestLoads_10 (by decide) ?_
        refine lv_iload_n hx hb dX10_fewestLoads_11 rfl (lv_at hl 3 rfl) ?_
        obtain ⟨o2, go2, hf⟩ := bd_s hf
        refine rs_Vv (As := [.int p2, .int (1 : Int32), .int x3]) (rest := []) ⟨hx, hb, hml, hown, hts⟩ (c_X10_addParts l D K F hMn rMn0 rMn3 rMn4 rMn5 rMn6 rMn7 rMn8 rMn9 hFr hRo H.size sMn sFr sRo p2 (1 : Int32) x3 o2 go2) (cwV 3 hts (gcV_X10_addParts (mB52 _ (List.mem_of_getElem? (i := 18) rfl))) rfl rfl rfl hdV_X10_addParts ⟨Nat.le_of_ble_eq_true rfl, Nat.le_of_ble_eq_true rfl⟩) hK hP hD hS hA (va_recv hK hP (ci := 9) (q0 := 0) rfl (rwl (rwl o_Mn))) rfl hl.1 rfl (Nat.le_of_ble_eq_true rfl) dX10_fewestLoads_12 ⟨Nat.zero_le _, Nat.zero_le _⟩ (fun H locs hP hD hS => ?_)
        have hP : va_P D vwCl (wMn K hMn rMn0 (hRo 99) rMn3 rMn4 rMn5 rMn6 rMn7 rMn8 rMn9 (hFr 99) sMn ++ wFr K hFr o2 ++ wRo K hRo sRo) H := hP
        have hD : va_D A (wMn K hMn rMn0 (hRo 99) rMn3 rMn4 rMn5 rMn6 rMn7 rMn8 rMn9 (hFr 99) sMn ++ wFr K hFr o2 ++ wRo K hRo sRo) := hD
        refine lv_aload_n hx hb dX10_fewestLoads_15 rfl (lv_at hl 0 rfl) ?_
        refine va_get (D := D) (ci := 9) (v := .ref (hFr 99)) (C := RX10) (T := TX10) (N := 14) hx hb hts iX10 hown hK hP 0 (rwl (rwl o_Mn)) rfl 10 (by decide) (htl _ (mB2 _ (List.mem_of_getElem? (i := 23) rfl))) (fun _ h9 => h9) rfl dX10_fewestLoads_16 ?_
        refine va_get (D := D) (ci := 2) (v := .long (o2.2.1 0)) (C := RX2) (T := TX2) (N := 2) hx hb hts iX2 hown hK hP (1 + 0) (rwl (rwr ln_Mn o_Fr)) rfl 0 (by decide) (htl _ (mB44 _ (List.mem_of_getElem? (i := 10) rfl))) (fun _ h9 => h9) rfl dX10_fewestLoads_19 ?_
        refine lv_iload_n hx hb dX10_fewestLoads_22 rfl (lv_at hl 1 rfl) ?_
        refine lv_i2l (v := p1.toInt64) hx hb dX10_fewestLoads_23 rfl ?_
        refine lv_aload_n hx hb dX10_fewestLoads_24 rfl (lv_at hl 0 rfl) ?_
        refine va_get (D := D) (ci := 9) (v := .ref (hFr 99)) (C := RX10) (T := TX10) (N := 14) hx hb hts iX10 hown hK hP 0 (rwl (rwl o_Mn)) rfl 10 (by decide) (htl _ (mB2 _ (List.mem_of_getElem? (i := 23) rfl))) (fun _ h9 => h9) rfl dX10_fewestLoads_25 ?_
        refine va_get (D := D) (ci := 2) (v := .long (o2.2.1 1)) (C := RX2) (T := TX2) (N := 2) hx hb hts iX2 hown hK hP (1 + 0) (rwl (rwr ln_Mn o_Fr)) rfl 1 (by decide) (htl _ (mB44 _ (List.mem_of_getElem? (i := 9) rfl))) (fun _ h9 => h9) rfl dX10_fewestLoads_28 ?_
        refine lv_lmul hx hb dX10_fewestLoads_31 ?_
        refine W.lcmp hx hb dX10_fewestLoads_32 ?_
        refine lv_if_lt (tgt := 38) hx hb dX10_fewestLoads_33 (by decide) (fun c3 => ?_) (fun c3 => ?_)
        · have hf := it_t hf c3
          obtain ⟨v4, ev4⟩ : ∃ z : Int32, z = x3 + (1 : Int32) := ⟨_, rfl⟩
          have hf := lz_s hf v4 ev4
          refine lv_iinc (v := v4) (lv' := [(3, .int v4), (0, .ref (hMn 99)), (1, .int p1), (2, .int p2)]) hx hb dX10_fewestLoads_38 hl (k := 3) rfl (by rw [ev4]; rfl) (by decide) rfl (fun ls hl => ?_)
          refine lv_goto (tgt := 2) hx hb dX10_fewestLoads_41 (by decide) ?_
          exact ih v4 o2 H locs ls hf hP hD hS (lv_sub hl [1, 2, 3, 0] rfl)
        · have hf := it_f hf c3
          refine lv_iload_n hx hb dX10_fewestLoads_36 rfl (lv_at hl 3 rfl) ?_
          have e9 := Option.some.inj hf
          rw [hQ]
          exact W.iret (v := x3) hx hb hr (fun t ht hW => ⟨⟨x3, o2, rfl, ⟨pr1 e9, pr2 e9⟩, ⟨by rw [ht]; exact hP, va_K.moved hW.alike hK, hD⟩⟩, hS.F ht⟩) hS.2.2 dX10_fewestLoads_37
  have hen : entryFrame m args 4 = entryFrame m (([.ref (hMn 99), .int p1, .int p2] : List Value).toArray) 4 := by rw [hargs]
  have hl := lv_entry ([.ref (hMn 99), .int p1, .int p2]) (n := 4) (Nat.le_of_ble_eq_true rfl)
  rw [hen, lg_entry_eq]
  generalize (lg_sl ([.ref (hMn 99), .int p1, .int p2]) ++ List.replicate (4 - (lg_sl ([.ref (hMn 99), .int p1, .int p2])).length) Slot.unset).toArray = ls at hl ⊢
  have hl : lv_has ls 4 [(0, .ref (hMn 99)), (1, .int p1), (2, .int p2)] := hl
  unfold f_X10_fewestLoads at hf
  obtain ⟨H, hHe⟩ : ∃ z, z = s.heap := ⟨_, rfl⟩
  obtain ⟨locs, hLe⟩ : ∃ z : List Loc, z = [] := ⟨_, rfl⟩
  rw [← hLe]
  have hS : va_S A s.heap H locs := by rw [hHe, hLe]; exact hS
  have hP : va_P D vwCl (wMn K hMn rMn0 (hRo 99) rMn3 rMn4 rMn5 rMn6 rMn7 rMn8 rMn9 (hFr 99) sMn ++ wFr K hFr sFr ++ wRo K hRo sRo) H := by rw [hHe]; exact hP
  have hgo : W p l e (headSpec wz_X10_fewestLoads r_X10_fewestLoads).room s m args below meth c H locs 0 0 Q (F0 m 0 ls []) := by
    refine lv_iconst (v := (0 : Int32)) hx hb dX10_fewestLoads_0 (by decide) ?_
    refine lv_istore_n (lv' := [(3, .int (0 : Int32)), (0, .ref (hMn 99)), (1, .int p1), (2, .int p2)]) hx hb dX10_fewestLoads_1 rfl hl (by decide) rfl (fun ls hl => ?_)
    exact w2 F (0 : Int32) sFr H locs ls hf hP hD hS (lv_sub hl [1, 2, 3, 0] rfl)
  rw [hHe] at hgo
  exact hgo

theorem gcV_X10_fewestLoads {T0 : Cond} {own : String} {i : Nat} (h : Cond.methodLink own i yX10_fewestLoads ∈ wsL_law) : GoodIn (T0 :: wsL_law) (wsV own i RX10 yX10_fewestLoads wz_X10_fewestLoads) := gV h (mB54 _ (List.mem_of_getElem? (i := 0) rfl)) (mB54 _ (List.mem_of_getElem? (i := 1) rfl)) (mB1 _ (List.mem_of_getElem? (i := 2) rfl)) (mB54 _ (List.mem_of_getElem? (i := 2) rfl))
theorem hdV_X10_fewestLoads : yX10_fewestLoads.cls = RX10 ∧ yX10_fewestLoads.cls ≠ "java/lang/invoke/MethodHandle" ∧ yX10_fewestLoads.cls ≠ "java/lang/invoke/VarHandle" ∧ (parseMethodDescriptor yX10_fewestLoads.desc).map (fun d => d.parameters.length) = some 2 := by decide +kernel
def wz_X10_loads : List Cond := .code yX10_loads cX10_loads 3 (some .int) :: wsL_law
abbrev r_X10_loads : Room := { frames := 5, cells := 0, slots := 0, locals := 127 }
set_option maxHeartbeats 4000000 in
set_option maxRecDepth 100000 in
theorem c_X10_loads (l : Launch) (D : va_G) (K : Nat → ClassId) (F : Nat) (hMn : Nat → Nat) (rMn0 : Nat) (rMn3 : Nat) (rMn4 : Nat) (rMn5 : Nat) (rMn6 : Nat) (rMn7 : Nat) (rMn8 : Nat) (rMn9 : Nat) (hFr : Nat → Nat) (hRo : Nat → Nat) (sz : Nat) (sMn : MS) (sFr : MS) (sRo : MS) (p1 : Int32) (p2 : Int32) (res : Int32 × MS × MS) (hf : f_X10_loads F sRo p1 p2 sMn sFr = some res) : Met l yX10_loads wz_X10_loads r_X10_loads (va_Pc [.ref (hMn 99), .int p1, .int p2] (PW D K (wMn K hMn rMn0 (hRo 99) rMn3 rMn4 rMn5 rMn6 rMn7 rMn8 rMn9 (hFr 99) sMn ++ wFr K hFr sFr ++ wRo K hRo sRo) sz)) (va_Qi (fun r u => r = res.1 ∧ u = res.2) (fun u t => BW D K (va_A (wMn K hMn rMn0 (hRo 99) rMn3 rMn4 rMn5 rMn6 rMn7 rMn8 rMn9 (hFr 99) sMn ++ wFr K hFr sFr ++ wRo K hRo sRo) sz) (wMn K hMn rMn0 (hRo 99) rMn3 rMn4 rMn5 rMn6 rMn7 rMn8 rMn9 (hFr 99) u.1 ++ wFr K hFr u.2 ++ wRo K hRo sRo) t) (va_A (wMn K hMn rMn0 (hRo 99) rMn3 rMn4 rMn5 rMn6 rMn7 rMn8 rMn9 (hFr 99) sMn ++ wFr K hFr sFr ++ wRo K hRo sRo) sz)) 0 0 (va_A (wMn K hMn rMn0 (hRo 99) rMn3 rMn4 rMn5 rMn6 rMn7 rMn8 rMn9 (hFr 99) sMn ++ wFr K hFr sFr ++ wRo K hRo sRo) sz) := by
  refine Met.ofW (cc := cX10_loads) (maxL := 3) (ret := (some .int)) (by decide) rfl ?_
  intro p e s m args below meth c s₁ B hml hv
  obtain ⟨hargs, hsz, hP, hK, hD0⟩ := hv
  have hx := B.exec
  have hb := B.bytes
  have hr := B.returns
  have hts := atoms_spec (ws := wz_X10_loads) B.pre
  have htl : ∀ w ∈ wsL_law, w.before args s = true := fun w h => hts w (List.mem_cons_of_mem _ h)
  have hown : s.vm.findClass RX10 = some m.cls := findClass_of_methodNamed B.named
  have hlocks := B.notSynchronized
  subst hsz
  have hD := hD0.self (sz := s.heap.size)
  generalize hAe : va_A (wMn K hMn rMn0 (hRo 99) rMn3 rMn4 rMn5 rMn6 rMn7 rMn8 rMn9 (hFr 99) sMn ++ wFr K hFr sFr ++ wRo K hRo sRo) s.heap.size = A at hD ⊢
  have hA : ∀ q : Nat, s.heap.size ≤ q → A q := fun q h => by rw [← hAe]; exact Or.inr h
  have hS : va_S A s.heap s.heap [] := va_S.rf
  have iX10 : ∀ w ∈ wsX100, w ∈ wz_X10_loads := fun w h => List.mem_cons_of_mem _ (inlX10 w h)
  suffices hgo : ∀ Q : State → Prop, Q = MQ below (va_Qi (fun r u => r = res.1 ∧ u = res.2) (fun u t => BW D K A (wMn K hMn rMn0 (hRo 99) rMn3 rMn4 rMn5 rMn6 rMn7 rMn8 rMn9 (hFr 99) u.1 ++ wFr K hFr u.2 ++ wRo K hRo sRo) t) A) args s 0 0 A → W p l e (headSpec wz_X10_loads r_X10_loads).room s m args below meth c s.heap [] 0 0 Q (entryFrame m args 3) from hgo _ rfl
  intro Q hQ
  have w27 : ∀ (sMn : MS), ∀ (sFr : MS), ∀ (H : Heap) (locs : List Loc) (ls : Array Slot), f_X10_loads_27 F sRo p1 p2 sMn sFr = some res → va_P D vwCl (wMn K hMn rMn0 (hRo 99) rMn3 rMn4 rMn5 rMn6 rMn7 rMn8 rMn9 (hFr 99) sMn ++ wFr K hFr sFr ++ wRo K hRo sRo) H → va_D A (wMn K hMn rMn0 (hRo 99) rMn3 rMn4 rMn5 rMn6 rMn7 rMn8 rMn9 (hFr 99) sMn ++ wFr K hFr sFr ++ wRo K hRo sRo) → va_S A s.heap H locs → lv_has ls 3 [(0, .ref (hMn 99))] → W p l e (headSpec wz_X10_loads r_X10_loads).room s m args below meth c H locs 0 0 Q (F0 m 27 ls []) := by
    intro sMn sFr H locs ls hf hP hD hS hl
    unfold f_X10_loads_27 at hf
    refine lv_aload_n hx hb dX10_loads_27 rfl (lv_at hl 0 rfl) ?_
    refine lv_iconst (v := (2 : Int32)) hx hb dX10_loads_28 (by decide) ?_
    obtain ⟨o8, go8, hf⟩ := bd_s hf
    refine rk_Vi (wn := wMn K hMn rMn0 (hRo 99) rMn3 rMn4 rMn5 rMn6 rMn7 rMn8 rMn9 (hFr 99) o8.2 ++ wFr K hFr sFr ++ wRo K hRo sRo) [wMn K hMn rMn0 (hRo 99) rMn3 rMn4 rMn5 rMn6 rMn7 rMn8 rMn9 (hFr 99) sMn, wFr K hFr sFr, wRo K hRo sRo] [wMn K hMn rMn0 (hRo 99) rMn3 rMn4 rMn5 rMn6 rMn7 rMn8 rMn9 (hFr 99) sMn] [wMn K hMn rMn0 (hRo 99) rMn3 rMn4 rMn5 rMn6 rMn7 rMn8 rMn9 (hFr 99) o8.2] [wMn K hMn rMn0 (hRo 99) rMn3 rMn4 rMn5 rMn6 rMn7 rMn8 rMn9 (hFr 99) o8.2, wFr K hFr sFr, wRo K hRo sRo] (As := [.int (2 : Int32)]) (rest := []) ⟨hx, hb, hml, hown, hts⟩ (c_X10_refuse l D K F hMn rMn0 (hRo 99) rMn3 rMn4 rMn5 rMn6 rMn7 rMn8 rMn9 (hFr 99) H.size sMn (2 : Int32) o8 go8) (cwV 1 hts (gcV_X10_refuse (mB7 _ (List.mem_of_getElem? (i := 18) rfl))) rfl rfl rfl hdV_X10_refuse ⟨Nat.le_of_ble_eq_true rfl, Nat.le_of_ble_eq_true rfl⟩) hK hP hD hS hA [0] (fl3 _ _ _) rfl (by decide) (fl1 _) (fl1 _) rfl rfl (fl3 _ _ _) (va_recv hK hP (ci := 9) (q0 := 0) rfl (rwl (rwl o_Mn))) rfl hl.1 rfl (Nat.le_of_ble_eq_true rfl) dX10_loads_29 ⟨Nat.zero_le _, Nat.zero_le _⟩ (fun H locs hP hD hS => ?_)
    have hP : va_P D vwCl (wMn K hMn rMn0 (hRo 99) rMn3 rMn4 rMn5 rMn6 rMn7 rMn8 rMn9 (hFr 99) o8.2 ++ wFr K hFr sFr ++ wRo K hRo sRo) H := hP
    have hD : va_D A (wMn K hMn rMn0 (hRo 99) rMn3 rMn4 rMn5 rMn6 rMn7 rMn8 rMn9 (hFr 99) o8.2 ++ wFr K hFr sFr ++ wRo K hRo sRo) := hD
    have e9 := Option.some.inj hf
    rw [hQ]
    exact W.iret (v := o8.1) hx hb hr (fun t ht hW => ⟨⟨o8.1, (o8.2, sFr), rfl, ⟨pr1 e9, pr2 e9⟩, ⟨by rw [ht]; exact hP, va_K.moved hW.alike hK, hD⟩⟩, hS.F ht⟩) hS.2.2 dX10_loads_32
  have hen : entryFrame m args 3 = entryFrame m (([.ref (hMn 99), .int p1, .int p2] : List Value).toArray) 3 := by rw [hargs]
  have hl := lv_entry ([.ref (hMn 99), .int p1, .int p2]) (n := 3) (Nat.le_of_ble_eq_true rfl)
  rw [hen, lg_entry_eq]
  generalize (lg_sl ([.ref (hMn 99), .int p1, .int p2]) ++ List.replicate (3 - (lg_sl ([.ref (hMn 99), .int p1, .int p2])).length) Slot.unset).toArray = ls at hl ⊢
  have hl : lv_has ls 3 [(0, .ref (hMn 99)), (1, .int p1), (2, .int p2)] := hl
  unfold f_X10_loads at hf
  obtain ⟨H, hHe⟩ : ∃ z, z = s.heap := ⟨_, rfl⟩
  obtain ⟨locs, hLe⟩ : ∃ z : List Loc, z = [] := ⟨_, rfl⟩
  rw [← hLe]
  have hS : va_S A s.heap H locs := by rw [hHe, hLe]; exact hS
  have hP : va_P D vwCl (wMn K hMn rMn0 (hRo 99) rMn3 rMn4 rMn5 rMn6 rMn7 rMn8 rMn9 (hFr 99) sMn ++ wFr K hFr sFr ++ wRo K hRo sRo) H := by rw [hHe]; exact hP
  have hgo : W p l e (headSpec wz_X10_loads r_X10_loads).room s m args below meth c H locs 0 0 Q (F0 m 0 ls []) := by
    refine lv_aload_n hx hb dX10_loads_0 rfl (lv_at hl 0 rfl) ?_
    refine va_get (D := D) (ci := 9) (v := .ref (hRo 99)) (C := RX10) (T := TX10) (N := 14) hx hb hts iX10 hown hK hP 0 (rwl (rwl o_Mn)) rfl 2 (by decide) (htl _ (mB1 _ (List.mem_of_getElem? (i := 18) rfl))) (fun _ h9 => h9) rfl dX10_loads_1 ?_
    obtain ⟨o1, go1, hf⟩ := bd_s hf
    refine ro_Vi (As := []) (rest := []) ⟨hx, hb, hml, hown, hts⟩ (c_X9_isTold l D K F hRo sRo o1 go1) (cwV 0 hts (gcV_X9_isTold (mB30 _ (List.mem_of_getElem? (i := 0) rfl))) rfl rfl rfl hdV_X9_isTold ⟨Nat.le_of_ble_eq_true rfl, Nat.le_of_ble_eq_true rfl⟩) hK hP hS (va_PL (cs := [wMn K hMn rMn0 (hRo 99) rMn3 rMn4 rMn5 rMn6 rMn7 rMn8 rMn9 (hFr 99) sMn, wFr K hFr sFr, wRo K hRo sRo]) (cc := [wRo K hRo sRo]) hP (fl3 _ _ _) [2] rfl (fl1 _)) (va_recv hK hP (ci := 8) (q0 := ((1 + 1) + 0)) rfl (rwr (lnA ln_Mn ln_Fr) o_Ro)) rfl hl.1 rfl (Nat.le_of_ble_eq_true rfl) dX10_loads_4 ⟨Nat.zero_le _, Nat.zero_le _⟩ (fun H locs hP hS => ?_)
    refine lv_if_ne (tgt := 16) hx hb dX10_loads_7 (by decide) (fun c2 => ?_) (fun c2 => ?_)
    · have hf := it_f hf c2
      refine lv_iload_n hx hb dX10_loads_16 rfl (lv_at hl 1 rfl) ?_
      refine lv_if_lt (tgt := 27) hx hb dX10_loads_17 (by decide) (fun c3 => ?_) (fun c3 => ?_)
      · have hf := it_t hf c3
        exact w27 sMn sFr H locs ls hf hP hD hS (lv_sub hl [0] rfl)
      · have hf := it_f hf c3
        refine lv_iload_n hx hb dX10_loads_20 rfl (lv_at hl 1 rfl) ?_
        refine lv_sipush (v := (999 : Int32)) hx hb dX10_loads_21 (by decide) ?_
        refine lv_icmp_le (tgt := 33) hx hb dX10_loads_24 (by decide) (fun c4 => ?_) (fun c4 => ?_)
        · have hf := it_t hf c4
          refine lv_aload_n hx hb dX10_loads_33 rfl (lv_at hl 0 rfl) ?_
          refine lv_aload_n hx hb dX10_loads_34 rfl (lv_at hl 0 rfl) ?_
          refine lv_iload_n hx hb dX10_loads_35 rfl (lv_at hl 1 rfl) ?_
          refine lv_iload_n hx hb dX10_loads_36 rfl (lv_at hl 2 rfl) ?_
          obtain ⟨o5, go5, hf⟩ := bd_s hf
          refine rs_Vi (As := [.int p1, .int p2]) (rest := [.ref (hMn 99)]) ⟨hx, hb, hml, hown, hts⟩ (c_X10_fewestLoads l D K F hMn rMn0 rMn3 rMn4 rMn5 rMn6 rMn7 rMn8 rMn9 hFr hRo H.size sMn sFr sRo p1 p2 o5 go5) (cwV 2 hts (gcV_X10_fewestLoads (mB53 _ (List.mem_of_getElem? (i := 23) rfl))) rfl rfl rfl hdV_X10_fewestLoads ⟨Nat.le_of_ble_eq_true rfl, Nat.le_of_ble_eq_true rfl⟩) hK hP hD hS hA (va_recv hK hP (ci := 9) (q0 := 0) rfl (rwl (rwl o_Mn))) rfl hl.1 rfl (Nat.le_of_ble_eq_true rfl) dX10_loads_37 ⟨Nat.zero_le _, Nat.zero_le _⟩ (fun H locs hP hD hS => ?_)
          have hP : va_P D vwCl (wMn K hMn rMn0 (hRo 99) rMn3 rMn4 rMn5 rMn6 rMn7 rMn8 rMn9 (hFr 99) sMn ++ wFr K hFr o5.2 ++ wRo K hRo sRo) H := hP
          have hD : va_D A (wMn K hMn rMn0 (hRo 99) rMn3 rMn4 rMn5 rMn6 rMn7 rMn8 rMn9 (hFr 99) sMn ++ wFr K hFr o5.2 ++ wRo K hRo sRo) := hD
          obtain ⟨o6, go6, hf⟩ := bd_s hf
          refine rk_Vi (wn := wMn K hMn rMn0 (hRo 99) rMn3 rMn4 rMn5 rMn6 rMn7 rMn8 rMn9 (hFr 99) o6.2 ++ wFr K hFr o5.2 ++ wRo K hRo sRo) [wMn K hMn rMn0 (hRo 99) rMn3 rMn4 rMn5 rMn6 rMn7 rMn8 rMn9 (hFr 99) sMn, wFr K hFr o5.2, wRo K hRo sRo] [wMn K hMn rMn0 (hRo 99) rMn3 rMn4 rMn5 rMn6 rMn7 rMn8 rMn9 (hFr 99) sMn] [wMn K hMn rMn0 (hRo 99) rMn3 rMn4 rMn5 rMn6 rMn7 rMn8 rMn9 (hFr 99) o6.2] [wMn K hMn rMn0 (hRo 99) rMn3 rMn4 rMn5 rMn6 rMn7 rMn8 rMn9 (hFr 99) o6.2, wFr K hFr o5.2, wRo K hRo sRo] (As := [.int o5.1]) (rest := []) ⟨hx, hb, hml, hown, hts⟩ (c_X10_accept l D K F hMn rMn0 (hRo 99) rMn3 rMn4 rMn5 rMn6 rMn7 rMn8 rMn9 (hFr 99) H.size sMn o5.1 o6 go6) (cwV 1 hts (gcV_X10_accept (mB17 _ (List.mem_of_getElem? (i := 14) rfl))) rfl rfl rfl hdV_X10_accept ⟨Nat.le_of_ble_eq_true rfl, Nat.le_of_ble_eq_true rfl⟩) hK hP hD hS hA [0] (fl3 _ _ _) rfl (by decide) (fl1 _) (fl1 _) rfl rfl (fl3 _ _ _) (va_recv hK hP (ci := 9) (q0 := 0) rfl (rwl (rwl o_Mn))) rfl hl.1 rfl (Nat.le_of_ble_eq_true rfl) dX10_loads_40 ⟨Nat.zero_le _, Nat.zero_le _⟩ (fun H locs hP hD hS => ?_)
          have hP : va_P D vwCl (wMn K hMn rMn0 (hRo 99) rMn3 rMn4 rMn5 rMn6 rMn7 rMn8 rMn9 (hFr 99) o6.2 ++ wFr K hFr o5.2 ++ wRo K hRo sRo) H := hP
          have hD : va_D A (wMn K hMn rMn0 (hRo 99) rMn3 rMn4 rMn5 rMn6 rMn7 rMn8 rMn9 (hFr 99) o6.2 ++ wFr K hFr o5.2 ++ wRo K hRo sRo) := hD
          have e9 := Option.some.inj hf
          rw [hQ]
          exact W.iret (v := o6.1) hx hb hr (fun t ht hW => ⟨⟨o6.1, (o6.2, o5.2), rfl, ⟨pr1 e9, pr2 e9⟩, ⟨by rw [ht]; exact hP, va_K.moved hW.alike hK, hD⟩⟩, hS.F ht⟩) hS.2.2 dX10_loads_43
        · have hf := it_f hf c4
          exact w27 sMn sFr H locs ls hf hP hD hS (lv_sub hl [0] rfl)
    · have hf := it_t hf c2
      refine lv_aload_n hx hb dX10_loads_10 rfl (lv_at hl 0 rfl) ?_
      refine lv_iconst (v := (1 : Int32)) hx hb dX10_loads_11 (by decide) ?_
      obtain ⟨o7, go7, hf⟩ := bd_s hf
      refine rk_Vi (wn := wMn K hMn rMn0 (hRo 99) rMn3 rMn4 rMn5 rMn6 rMn7 rMn8 rMn9 (hFr 99) o7.2 ++ wFr K hFr sFr ++ wRo K hRo sRo) [wMn K hMn rMn0 (hRo 99) rMn3 rMn4 rMn5 rMn6 rMn7 rMn8 rMn9 (hFr 99) sMn, wFr K hFr sFr, wRo K hRo sRo] [wMn K hMn rMn0 (hRo 99) rMn3 rMn4 rMn5 rMn6 rMn7 rMn8 rMn9 (hFr 99) sMn] [wMn K hMn rMn0 (hRo 99) rMn3 rMn4 rMn5 rMn6 rMn7 rMn8 rMn9 (hFr 99) o7.2] [wMn K hMn rMn0 (hRo 99) rMn3 rMn4 rMn5 rMn6 rMn7 rMn8 rMn9 (hFr 99) o7.2, wFr K hFr sFr, wRo K hRo sRo] (As := [.int (1 : Int32)]) (rest := []) ⟨hx, hb, hml, hown, hts⟩ (c_X10_refuse l D K F hMn rMn0 (hRo 99) rMn3 rMn4 rMn5 rMn6 rMn7 rMn8 rMn9 (hFr 99) H.size sMn (1 : Int32) o7 go7) (cwV 1 hts (gcV_X10_refuse (mB7 _ (List.mem_of_getElem? (i := 18) rfl))) rfl rfl rfl hdV_X10_refuse ⟨Nat.le_of_ble_eq_true rfl, Nat.le_of_ble_eq_true rfl⟩) hK hP hD hS hA [0] (fl3 _ _ _) rfl (by decide) (fl1 _) (fl1 _) rfl rfl (fl3 _ _ _) (va_recv hK hP (ci := 9) (q0 := 0) rfl (rwl (rwl o_Mn))) rfl hl.1 rfl (Nat.le_of_ble_eq_true rfl) dX10_loads_12 ⟨Nat.zero_le _, Nat.zero_le _⟩ (fun H locs hP hD hS => ?_)
      have hP : va_P D vwCl (wMn K hMn rMn0 (hRo 99) rMn3 rMn4 rMn5 rMn6 rMn7 rMn8 rMn9 (hFr 99) o7.2 ++ wFr K hFr sFr ++ wRo K hRo sRo) H := hP
      have hD : va_D A (wMn K hMn rMn0 (hRo 99) rMn3 rMn4 rMn5 rMn6 rMn7 rMn8 rMn9 (hFr 99) o7.2 ++ wFr K hFr sFr ++ wRo K hRo sRo) := hD
      have e9 := Option.some.inj hf
      rw [hQ]
      exact W.iret (v := o7.1) hx hb hr (fun t ht hW => ⟨⟨o7.1, (o7.2, sFr), rfl, ⟨pr1 e9, pr2 e9⟩, ⟨by rw [ht]; exact hP, va_K.moved hW.alike hK, hD⟩⟩, hS.F ht⟩) hS.2.2 dX10_loads_15
  rw [hHe] at hgo
  exact hgo

def wz_X10_depot : List Cond := .code yX10_depot cX10_depot 5 (some .long) :: wsL_law
abbrev r_X10_depot : Room := { frames := 4, cells := 0, slots := 0, locals := 104 }
set_option maxHeartbeats 4000000 in
set_option maxRecDepth 100000 in
theorem c_X10_depot (l : Launch) (D : va_G) (K : Nat → ClassId) (F : Nat) (hMn : Nat → Nat) (rMn0 : Nat) (rMn3 : Nat) (rMn4 : Nat) (rMn5 : Nat) (rMn6 : Nat) (rMn7 : Nat) (rMn8 : Nat) (rMn9 : Nat) (hFr : Nat → Nat) (hRo : Nat → Nat) (sz : Nat) (sMn : MS) (sFr : MS) (sRo : MS) (p1 : Int32) (p2 : Int32) (p3 : Int32) (p4 : Int32) (res : Int64 × MS × MS) (hf : f_X10_depot F sRo p1 p2 p3 p4 sMn sFr = some res) : Met l yX10_depot wz_X10_depot r_X10_depot (va_Pc [.ref (hMn 99), .int p1, .int p2, .int p3, .int p4] (PW D K (wMn K hMn rMn0 (hRo 99) rMn3 rMn4 rMn5 rMn6 rMn7 rMn8 rMn9 (hFr 99) sMn ++ wFr K hFr sFr ++ wRo K hRo sRo) sz)) (va_Ql (fun r u => r = res.1 ∧ u = res.2) (fun u t => BW D K (va_A (wMn K hMn rMn0 (hRo 99) rMn3 rMn4 rMn5 rMn6 rMn7 rMn8 rMn9 (hFr 99) sMn ++ wFr K hFr sFr ++ wRo K hRo sRo) sz) (wMn K hMn rMn0 (hRo 99) rMn3 rMn4 rMn5 rMn6 rMn7 rMn8 rMn9 (hFr 99) u.1 ++ wFr K hFr u.2 ++ wRo K hRo sRo) t) (va_A (wMn K hMn rMn0 (hRo 99) rMn3 rMn4 rMn5 rMn6 rMn7 rMn8 rMn9 (hFr 99) sMn ++ wFr K hFr sFr ++ wRo K hRo sRo) sz)) 0 0 (va_A (wMn K hMn rMn0 (hRo 99) rMn3 rMn4 rMn5 rMn6 rMn7 rMn8 rMn9 (hFr 99) sMn ++ wFr K hFr sFr ++ wRo K hRo sRo) sz) := by
  refine Met.ofW (cc := cX10_depot) (maxL := 5) (ret := (some .long)) (by decide) rfl ?_
  intro p e s m args below meth c s₁ B hml hv
  obtain ⟨hargs, hsz, hP, hK, hD0⟩ := hv
  have hx := B.exec
  have hb := B.bytes
  have hr := B.returns
  have hts := atoms_spec (ws := wz_X10_depot) B.pre
  have htl : ∀ w ∈ wsL_law, w.before args s = true := fun w h => hts w (List.mem_cons_of_mem _ h)
  have hown : s.vm.findClass RX10 = some m.cls := findClass_of_methodNamed B.named
  have hlocks := B.notSynchronized
  subst hsz
  have hD := hD0.self (sz := s.heap.size)
  generalize hAe : va_A (wMn K hMn rMn0 (hRo 99) rMn3 rMn4 rMn5 rMn6 rMn7 rMn8 rMn9 (hFr 99) sMn ++ wFr K hFr sFr ++ wRo K hRo sRo) s.heap.size = A at hD ⊢
  have hA : ∀ q : Nat, s.heap.size ≤ q → A q := fun q h => by rw [← hAe]; exact Or.inr h
  have hS : va_S A s.heap s.heap [] := va_S.rf
  have iX10 : ∀ w ∈ wsX100, w ∈ wz_X10_depot := fun w h => List.mem_cons_of_mem _ (inlX10 w h)
  suffices hgo : ∀ Q : State → Prop, Q = MQ below (va_Ql (fun r u => r = res.1 ∧ u = res.2) (fun u t => BW D K A (wMn K hMn rMn0 (hRo 99) rMn3 rMn4 rMn5 rMn6 rMn7 rMn8 rMn9 (hFr 99) u.1 ++ wFr K hFr u.2 ++ wRo K hRo sRo) t) A) args s 0 0 A → W p l e (headSpec wz_X10_depot r_X10_depot).room s m args below meth c s.heap [] 0 0 Q (entryFrame m args 5) from hgo _ rfl
  intro Q hQ
  have w28 : ∀ (sMn : MS), ∀ (sFr : MS), ∀ (H : Heap) (locs : List Loc) (ls : Array Slot), f_X10_depot_28 F sRo p1 p2 p3 p4 sMn sFr = some res → va_P D vwCl (wMn K hMn rMn0 (hRo 99) rMn3 rMn4 rMn5 rMn6 rMn7 rMn8 rMn9 (hFr 99) sMn ++ wFr K hFr sFr ++ wRo K hRo sRo) H → va_D A (wMn K hMn rMn0 (hRo 99) rMn3 rMn4 rMn5 rMn6 rMn7 rMn8 rMn9 (hFr 99) sMn ++ wFr K hFr sFr ++ wRo K hRo sRo) → va_S A s.heap H locs → lv_has ls 5 [(0, .ref (hMn 99))] → W p l e (headSpec wz_X10_depot r_X10_depot).room s m args below meth c H locs 0 0 Q (F0 m 28 ls []) := by
    intro sMn sFr H locs ls hf hP hD hS hl
    unfold f_X10_depot_28 at hf
    refine lv_aload_n hx hb dX10_depot_28 rfl (lv_at hl 0 rfl) ?_
    refine lv_iconst (v := (2 : Int32)) hx hb dX10_depot_29 (by decide) ?_
    obtain ⟨o11, go11, hf⟩ := bd_s hf
    refine rk_Vi (wn := wMn K hMn rMn0 (hRo 99) rMn3 rMn4 rMn5 rMn6 rMn7 rMn8 rMn9 (hFr 99) o11.2 ++ wFr K hFr sFr ++ wRo K hRo sRo) [wMn K hMn rMn0 (hRo 99) rMn3 rMn4 rMn5 rMn6 rMn7 rMn8 rMn9 (hFr 99) sMn, wFr K hFr sFr, wRo K hRo sRo] [wMn K hMn rMn0 (hRo 99) rMn3 rMn4 rMn5 rMn6 rMn7 rMn8 rMn9 (hFr 99) sMn] [wMn K hMn rMn0 (hRo 99) rMn3 rMn4 rMn5 rMn6 rMn7 rMn8 rMn9 (hFr 99) o11.2] [wMn K hMn rMn0 (hRo 99) rMn3 rMn4 rMn5 rMn6 rMn7 rMn8 rMn9 (hFr 99) o11.2, wFr K hFr sFr, wRo K hRo sRo] (As := [.int (2 : Int32)]) (rest := []) ⟨hx, hb, hml, hown, hts⟩ (c_X10_refuse l D K F hMn rMn0 (hRo 99) rMn3 rMn4 rMn5 rMn6 rMn7 rMn8 rMn9 (hFr 99) H.size sMn (2 : Int32) o11 go11) (cwV 1 hts (gcV_X10_refuse (mB7 _ (List.mem_of_getElem? (i := 18) rfl))) rfl rfl rfl hdV_X10_refuse ⟨Nat.le_of_ble_eq_true rfl, Nat.le_of_ble_eq_true rfl⟩) hK hP hD hS hA [0] (fl3 _ _ _) rfl (by decide) (fl1 _) (fl1 _) rfl rfl (fl3 _ _ _) (va_recv hK hP (ci := 9) (q0 := 0) rfl (rwl (rwl o_Mn))) rfl hl.1 rfl (Nat.le_of_ble_eq_true rfl) dX10_depot_30 ⟨Nat.zero_le _, Nat.zero_le _⟩ (fun H locs hP hD hS => ?_)
    have hP : va_P D vwCl (wMn K hMn rMn0 (hRo 99) rMn3 rMn4 rMn5 rMn6 rMn7 rMn8 rMn9 (hFr 99) o11.2 ++ wFr K hFr sFr ++ wRo K hRo sRo) H := hP
    have hD : va_D A (wMn K hMn rMn0 (hRo 99) rMn3 rMn4 rMn5 rMn6 rMn7 rMn8 rMn9 (hFr 99) o11.2 ++ wFr K hFr sFr ++ wRo K hRo sRo) := hD
    refine lv_i2l (v := o11.1.toInt64) hx hb dX10_depot_33 rfl ?_
    have e9 := Option.some.inj hf
    rw [hQ]
    exact W.lret (v := o11.1.toInt64) hx hb hr (fun t ht hW => ⟨⟨o11.1.toInt64, (o11.2, sFr), rfl, ⟨pr1 e9, pr2 e9⟩, ⟨by rw [ht]; exact hP, va_K.moved hW.alike hK, hD⟩⟩, hS.F ht⟩) hS.2.2 dX10_depot_34
  have w45 : ∀ (sMn : MS), ∀ (sFr : MS), ∀ (H : Heap) (locs : List Loc) (ls : Array Slot), f_X10_depot_45 F sRo p1 p2 p3 p4 sMn sFr = some res → va_P D vwCl (wMn K hMn rMn0 (hRo 99) rMn3 rMn4 rMn5 rMn6 rMn7 rMn8 rMn9 (hFr 99) sMn ++ wFr K hFr sFr ++ wRo K hRo sRo) H → va_D A (wMn K hMn rMn0 (hRo 99) rMn3 rMn4 rMn5 rMn6 rMn7 rMn8 rMn9 (hFr 99) sMn ++ wFr K hFr sFr ++ wRo K hRo sRo) → va_S A s.heap H locs → lv_has ls 5 [(0, .ref (hMn 99))] → W p l e (headSpec wz_X10_depot r_X10_depot).room s m args below meth c H locs 0 0 Q (F0 m 45 ls []) := by
    intro sMn sFr H locs ls hf hP hD hS hl
    unfold f_X10_depot_45 at hf
    refine lv_aload_n hx hb dX10_depot_45 rfl (lv_at hl 0 rfl) ?_
    refine lv_iconst (v := (1 : Int32)) hx hb dX10_depot_46 (by decide) ?_
    obtain ⟨o10, go10, hf⟩ := bd_s hf
    refine rk_Vi (wn := wMn K hMn rMn0 (hRo 99) rMn3 rMn4 rMn5 rMn6 rMn7 rMn8 rMn9 (hFr 99) o10.2 ++ wFr K hFr sFr ++ wRo K hRo sRo) [wMn K hMn rMn0 (hRo 99) rMn3 rMn4 rMn5 rMn6 rMn7 rMn8 rMn9 (hFr 99) sMn, wFr K hFr sFr, wRo K hRo sRo] [wMn K hMn rMn0 (hRo 99) rMn3 rMn4 rMn5 rMn6 rMn7 rMn8 rMn9 (hFr 99) sMn] [wMn K hMn rMn0 (hRo 99) rMn3 rMn4 rMn5 rMn6 rMn7 rMn8 rMn9 (hFr 99) o10.2] [wMn K hMn rMn0 (hRo 99) rMn3 rMn4 rMn5 rMn6 rMn7 rMn8 rMn9 (hFr 99) o10.2, wFr K hFr sFr, wRo K hRo sRo] (As := [.int (1 : Int32)]) (rest := []) ⟨hx, hb, hml, hown, hts⟩ (c_X10_refuse l D K F hMn rMn0 (hRo 99) rMn3 rMn4 rMn5 rMn6 rMn7 rMn8 rMn9 (hFr 99) H.size sMn (1 : Int32) o10 go10) (cwV 1 hts (gcV_X10_refuse (mB7 _ (List.mem_of_getElem? (i := 18) rfl))) rfl rfl rfl hdV_X10_refuse ⟨Nat.le_of_ble_eq_true rfl, Nat.le_of_ble_eq_true rfl⟩) hK hP hD hS hA [0] (fl3 _ _ _) rfl (by decide) (fl1 _) (fl1 _) rfl rfl (fl3 _ _ _) (va_recv hK hP (ci := 9) (q0 := 0) rfl (rwl (rwl o_Mn))) rfl hl.1 rfl (Nat.le_of_ble_eq_true rfl) dX10_depot_47 ⟨Nat.zero_le _, Nat.zero_le _⟩ (fun H locs hP hD hS => ?_)
    have hP : va_P D vwCl (wMn K hMn rMn0 (hRo 99) rMn3 rMn4 rMn5 rMn6 rMn7 rMn8 rMn9 (hFr 99) o10.2 ++ wFr K hFr sFr ++ wRo K hRo sRo) H := hP
    have hD : va_D A (wMn K hMn rMn0 (hRo 99) rMn3 rMn4 rMn5 rMn6 rMn7 rMn8 rMn9 (hFr 99) o10.2 ++ wFr K hFr sFr ++ wRo K hRo sRo) := hD
    refine lv_i2l (v := o10.1.toInt64) hx hb dX10_depot_50 rfl ?_
    have e9 := Option.some.inj hf
    rw [hQ]
    exact W.lret (v := o10.1.toInt64) hx hb hr (fun t ht hW => ⟨⟨o10.1.toInt64, (o10.2, sFr), rfl, ⟨pr1 e9, pr2 e9⟩, ⟨by rw [ht]; exact hP, va_K.moved hW.alike hK, hD⟩⟩, hS.F ht⟩) hS.2.2 dX10_depot_51
  have hen : entryFrame m args 5 = entryFrame m (([.ref (hMn 99), .int p1, .int p2, .int p3, .int p4] : List Value).toArray) 5 := by rw [hargs]
  have hl := lv_entry ([.ref (hMn 99), .int p1, .int p2, .int p3, .int p4]) (n := 5) (Nat.le_of_ble_eq_true rfl)
  rw [hen, lg_entry_eq]
  generalize (lg_sl ([.ref (hMn 99), .int p1, .int p2, .int p3, .int p4]) ++ List.replicate (5 - (lg_sl ([.ref (hMn 99), .int p1, .int p2, .int p3, .int p4])).length) Slot.unset).toArray = ls at hl ⊢
  have hl : lv_has ls 5 [(0, .ref (hMn 99)), (1, .int p1), (2, .int p2), (3, .int p3), (4, .int p4)] := hl
  unfold f_X10_depot at hf
  obtain ⟨H, hHe⟩ : ∃ z, z = s.heap := ⟨_, rfl⟩
  obtain ⟨locs, hLe⟩ : ∃ z : List Loc, z = [] := ⟨_, rfl⟩
  rw [← hLe]
  have hS : va_S A s.heap H locs := by rw [hHe, hLe]; exact hS
  have hP : va_P D vwCl (wMn K hMn rMn0 (hRo 99) rMn3 rMn4 rMn5 rMn6 rMn7 rMn8 rMn9 (hFr 99) sMn ++ wFr K hFr sFr ++ wRo K hRo sRo) H := by rw [hHe]; exact hP
  have hgo : W p l e (headSpec wz_X10_depot r_X10_depot).room s m args below meth c H locs 0 0 Q (F0 m 0 ls []) := by
    refine lv_aload_n hx hb dX10_depot_0 rfl (lv_at hl 0 rfl) ?_
    refine va_get (D := D) (ci := 9) (v := .ref (hRo 99)) (C := RX10) (T := TX10) (N := 14) hx hb hts iX10 hown hK hP 0 (rwl (rwl o_Mn)) rfl 2 (by decide) (htl _ (mB1 _ (List.mem_of_getElem? (i := 18) rfl))) (fun _ h9 => h9) rfl dX10_depot_1 ?_
    obtain ⟨o1, go1, hf⟩ := bd_s hf
    refine ro_Vi (As := []) (rest := []) ⟨hx, hb, hml, hown, hts⟩ (c_X9_isTold l D K F hRo sRo o1 go1) (cwV 0 hts (gcV_X9_isTold (mB30 _ (List.mem_of_getElem? (i := 0) rfl))) rfl rfl rfl hdV_X9_isTold ⟨Nat.le_of_ble_eq_true rfl, Nat.le_of_ble_eq_true rfl⟩) hK hP hS (va_PL (cs := [wMn K hMn rMn0 (hRo 99) rMn3 rMn4 rMn5 rMn6 rMn7 rMn8 rMn9 (hFr 99) sMn, wFr K hFr sFr, wRo K hRo sRo]) (cc := [wRo K hRo sRo]) hP (fl3 _ _ _) [2] rfl (fl1 _)) (va_recv hK hP (ci := 8) (q0 := ((1 + 1) + 0)) rfl (rwr (lnA ln_Mn ln_Fr) o_Ro)) rfl hl.1 rfl (Nat.le_of_ble_eq_true rfl) dX10_depot_4 ⟨Nat.zero_le _, Nat.zero_le _⟩ (fun H locs hP hS => ?_)
    refine lv_if_ne (tgt := 17) hx hb dX10_depot_7 (by decide) (fun c2 => ?_) (fun c2 => ?_)
    · have hf := it_f hf c2
      refine lv_iload_n hx hb dX10_depot_17 rfl (lv_at hl 1 rfl) ?_
      refine lv_iconst (v := (2 : Int32)) hx hb dX10_depot_18 (by decide) ?_
      refine lv_icmp_lt (tgt := 28) hx hb dX10_depot_19 (by decide) (fun c3 => ?_) (fun c3 => ?_)
      · have hf := it_t hf c3
        exact w28 sMn sFr H locs ls hf hP hD hS (lv_sub hl [0] rfl)
      · have hf := it_f hf c3
        refine lv_iload_n hx hb dX10_depot_22 rfl (lv_at hl 1 rfl) ?_
        refine lv_bipush (v := (12 : Int32)) hx hb dX10_depot_23 (by decide) ?_
        refine lv_icmp_le (tgt := 35) hx hb dX10_depot_25 (by decide) (fun c4 => ?_) (fun c4 => ?_)
        · have hf := it_t hf c4
          refine lv_iload_n hx hb dX10_depot_35 rfl (lv_at hl 3 rfl) ?_
          refine lv_iconst (v := (1 : Int32)) hx hb dX10_depot_36 (by decide) ?_
          refine lv_icmp_lt (tgt := 45) hx hb dX10_depot_37 (by decide) (fun c5 => ?_) (fun c5 => ?_)
          · have hf := it_t hf c5
            exact w45 sMn sFr H locs ls hf hP hD hS (lv_sub hl [0] rfl)
          · have hf := it_f hf c5
            refine lv_iload_n hx hb dX10_depot_40 rfl (lv_at hl 3 rfl) ?_
            refine lv_iload_n hx hb dX10_depot_41 rfl (lv_at hl 1 rfl) ?_
            refine lv_icmp_lt (tgt := 52) hx hb dX10_depot_42 (by decide) (fun c6 => ?_) (fun c6 => ?_)
            · have hf := it_t hf c6
              refine lv_aload_n hx hb dX10_depot_52 rfl (lv_at hl 0 rfl) ?_
              refine lv_iload_n hx hb dX10_depot_53 rfl (lv_at hl 2 rfl) ?_
              refine lv_iload_n hx hb dX10_depot_54 rfl (lv_at hl 1 rfl) ?_
              refine lv_iload_n hx hb dX10_depot_55 rfl (lv_at hl 3 rfl) ?_
              refine lv_isub hx hb dX10_depot_56 ?_
              refine lv_iconst (v := (1 : Int32)) hx hb dX10_depot_57 (by decide) ?_
              refine lv_iadd hx hb dX10_depot_58 ?_
              refine lv_iload_n hx hb dX10_depot_59 rfl (lv_at hl 1 rfl) ?_
              obtain ⟨o7, go7, hf⟩ := bd_s hf
              refine rs_Vv (As := [.int p2, .int ((p1 - p3) + (1 : Int32)), .int p1]) (rest := []) ⟨hx, hb, hml, hown, hts⟩ (c_X10_addParts l D K F hMn rMn0 rMn3 rMn4 rMn5 rMn6 rMn7 rMn8 rMn9 hFr hRo H.size sMn sFr sRo p2 ((p1 - p3) + (1 : Int32)) p1 o7 go7) (cwV 3 hts (gcV_X10_addParts (mB52 _ (List.mem_of_getElem? (i := 18) rfl))) rfl rfl rfl hdV_X10_addParts ⟨Nat.le_of_ble_eq_true rfl, Nat.le_of_ble_eq_true rfl⟩) hK hP hD hS hA (va_recv hK hP (ci := 9) (q0 := 0) rfl (rwl (rwl o_Mn))) rfl hl.1 rfl (Nat.le_of_ble_eq_true rfl) dX10_depot_60 ⟨Nat.zero_le _, Nat.zero_le _⟩ (fun H locs hP hD hS => ?_)
              have hP : va_P D vwCl (wMn K hMn rMn0 (hRo 99) rMn3 rMn4 rMn5 rMn6 rMn7 rMn8 rMn9 (hFr 99) sMn ++ wFr K hFr o7 ++ wRo K hRo sRo) H := hP
              have hD : va_D A (wMn K hMn rMn0 (hRo 99) rMn3 rMn4 rMn5 rMn6 rMn7 rMn8 rMn9 (hFr 99) sMn ++ wFr K hFr o7 ++ wRo K hRo sRo) := hD
              refine lv_aload_n hx hb dX10_depot_63 rfl (lv_at hl 0 rfl) ?_
              refine lv_iload hx hb dX10_depot_64 (lv_at hl 4 rfl) ?_
              obtain ⟨o8, go8, hf⟩ := bd_s hf
              refine rk_Vl (wn := wMn K hMn rMn0 (hRo 99) rMn3 rMn4 rMn5 rMn6 rMn7 rMn8 rMn9 (hFr 99) o8.2 ++ wFr K hFr o7 ++ wRo K hRo sRo) [wMn K hMn rMn0 (hRo 99) rMn3 rMn4 rMn5 rMn6 rMn7 rMn8 rMn9 (hFr 99) sMn, wFr K hFr o7, wRo K hRo sRo] [wMn K hMn rMn0 (hRo 99) rMn3 rMn4 rMn5 rMn6 rMn7 rMn8 rMn9 (hFr 99) sMn, wFr K hFr o7] [wMn K hMn rMn0 (hRo 99) rMn3 rMn4 rMn5 rMn6 rMn7 rMn8 rMn9 (hFr 99) o8.2, wFr K hFr o7] [wMn K hMn rMn0 (hRo 99) rMn3 rMn4 rMn5 rMn6 rMn7 rMn8 rMn9 (hFr 99) o8.2, wFr K hFr o7, wRo K hRo sRo] (As := [.int p4]) (rest := []) ⟨hx, hb, hml, hown, hts⟩ (c_X10_acceptFraction l D K F hMn rMn0 (hRo 99) rMn3 rMn4 rMn5 rMn6 rMn7 rMn8 rMn9 hFr H.size sMn o7 p4 o8 go8) (cwV 1 hts (gcV_X10_acceptFraction (mB44 _ (List.mem_of_getElem? (i := 5) rfl))) rfl rfl rfl hdV_X10_acceptFraction ⟨Nat.le_of_ble_eq_true rfl, Nat.le_of_ble_eq_true rfl⟩) hK hP hD hS hA [0, 1] (fl3 _ _ _) rfl (by decide) (fl2 _ _) (fl2 _ _) rfl rfl (fl3 _ _ _) (va_recv hK hP (ci := 9) (q0 := 0) rfl (rwl (rwl o_Mn))) rfl hl.1 rfl (Nat.le_of_ble_eq_true rfl) dX10_depot_66 ⟨Nat.zero_le _, Nat.zero_le _⟩ (fun H locs hP hD hS => ?_)
              have hP : va_P D vwCl (wMn K hMn rMn0 (hRo 99) rMn3 rMn4 rMn5 rMn6 rMn7 rMn8 rMn9 (hFr 99) o8.2 ++ wFr K hFr o7 ++ wRo K hRo sRo) H := hP
              have hD : va_D A (wMn K hMn rMn0 (hRo 99) rMn3 rMn4 rMn5 rMn6 rMn7 rMn8 rMn9 (hFr 99) o8.2 ++ wFr K hFr o7 ++ wRo K hRo sRo) := hD
              have e9 := Option.some.inj hf
              rw [hQ]
              exact W.lret (v := o8.1) hx hb hr (fun t ht hW => ⟨⟨o8.1, (o8.2, o7), rfl, ⟨pr1 e9, pr2 e9⟩, ⟨by rw [ht]; exact hP, va_K.moved hW.alike hK, hD⟩⟩, hS.F ht⟩) hS.2.2 dX10_depot_69
            · have hf := it_f hf c6
              exact w45 sMn sFr H locs ls hf hP hD hS (lv_sub hl [0] rfl)
        · have hf := it_f hf c4
          exact w28 sMn sFr H locs ls hf hP hD hS (lv_sub hl [0] rfl)
    · have hf := it_t hf c2
      refine lv_aload_n hx hb dX10_depot_10 rfl (lv_at hl 0 rfl) ?_
      refine lv_iconst (v := (1 : Int32)) hx hb dX10_depot_11 (by decide) ?_
      obtain ⟨o9, go9, hf⟩ := bd_s hf
      refine rk_Vi (wn := wMn K hMn rMn0 (hRo 99) rMn3 rMn4 rMn5 rMn6 rMn7 rMn8 rMn9 (hFr 99) o9.2 ++ wFr K hFr sFr ++ wRo K hRo sRo) [wMn K hMn rMn0 (hRo 99) rMn3 rMn4 rMn5 rMn6 rMn7 rMn8 rMn9 (hFr 99) sMn, wFr K hFr sFr, wRo K hRo sRo] [wMn K hMn rMn0 (hRo 99) rMn3 rMn4 rMn5 rMn6 rMn7 rMn8 rMn9 (hFr 99) sMn] [wMn K hMn rMn0 (hRo 99) rMn3 rMn4 rMn5 rMn6 rMn7 rMn8 rMn9 (hFr 99) o9.2] [wMn K hMn rMn0 (hRo 99) rMn3 rMn4 rMn5 rMn6 rMn7 rMn8 rMn9 (hFr 99) o9.2, wFr K hFr sFr, wRo K hRo sRo] (As := [.int (1 : Int32)]) (rest := []) ⟨hx, hb, hml, hown, hts⟩ (c_X10_refuse l D K F hMn rMn0 (hRo 99) rMn3 rMn4 rMn5 rMn6 rMn7 rMn8 rMn9 (hFr 99) H.size sMn (1 : Int32) o9 go9) (cwV 1 hts (gcV_X10_refuse (mB7 _ (List.mem_of_getElem? (i := 18) rfl))) rfl rfl rfl hdV_X10_refuse ⟨Nat.le_of_ble_eq_true rfl, Nat.le_of_ble_eq_true rfl⟩) hK hP hD hS hA [0] (fl3 _ _ _) rfl (by decide) (fl1 _) (fl1 _) rfl rfl (fl3 _ _ _) (va_recv hK hP (ci := 9) (q0 := 0) rfl (rwl (rwl o_Mn))) rfl hl.1 rfl (Nat.le_of_ble_eq_true rfl) dX10_depot_12 ⟨Nat.zero_le _, Nat.zero_le _⟩ (fun H locs hP hD hS => ?_)
      have hP : va_P D vwCl (wMn K hMn rMn0 (hRo 99) rMn3 rMn4 rMn5 rMn6 rMn7 rMn8 rMn9 (hFr 99) o9.2 ++ wFr K hFr sFr ++ wRo K hRo sRo) H := hP
      have hD : va_D A (wMn K hMn rMn0 (hRo 99) rMn3 rMn4 rMn5 rMn6 rMn7 rMn8 rMn9 (hFr 99) o9.2 ++ wFr K hFr sFr ++ wRo K hRo sRo) := hD
      refine lv_i2l (v := o9.1.toInt64) hx hb dX10_depot_15 rfl ?_
      have e9 := Option.some.inj hf
      rw [hQ]
      exact W.lret (v := o9.1.toInt64) hx hb hr (fun t ht hW => ⟨⟨o9.1.toInt64, (o9.2, sFr), rfl, ⟨pr1 e9, pr2 e9⟩, ⟨by rw [ht]; exact hP, va_K.moved hW.alike hK, hD⟩⟩, hS.F ht⟩) hS.2.2 dX10_depot_16
  rw [hHe] at hgo
  exact hgo

def wz_X10_convoy : List Cond := .code yX10_convoy cX10_convoy 4 (some .long) :: wsL_law
abbrev r_X10_convoy : Room := { frames := 3, cells := 0, slots := 0, locals := 80 }
set_option maxHeartbeats 4000000 in
set_option maxRecDepth 100000 in
theorem c_X10_convoy (l : Launch) (D : va_G) (K : Nat → ClassId) (F : Nat) (hMn : Nat → Nat) (rMn0 : Nat) (rMn3 : Nat) (rMn4 : Nat) (rMn5 : Nat) (rMn6 : Nat) (rMn7 : Nat) (rMn8 : Nat) (rMn9 : Nat) (hFr : Nat → Nat) (hRo : Nat → Nat) (sz : Nat) (sMn : MS) (sFr : MS) (sRo : MS) (p1 : Int32) (p2 : Int32) (res : Int64 × MS × MS) (hf : f_X10_convoy F sRo p1 p2 sMn sFr = some res) : Met l yX10_convoy wz_X10_convoy r_X10_convoy (va_Pc [.ref (hMn 99), .int p1, .int p2] (PW D K (wMn K hMn rMn0 (hRo 99) rMn3 rMn4 rMn5 rMn6 rMn7 rMn8 rMn9 (hFr 99) sMn ++ wFr K hFr sFr ++ wRo K hRo sRo) sz)) (va_Ql (fun r u => r = res.1 ∧ u = res.2) (fun u t => BW D K (va_A (wMn K hMn rMn0 (hRo 99) rMn3 rMn4 rMn5 rMn6 rMn7 rMn8 rMn9 (hFr 99) sMn ++ wFr K hFr sFr ++ wRo K hRo sRo) sz) (wMn K hMn rMn0 (hRo 99) rMn3 rMn4 rMn5 rMn6 rMn7 rMn8 rMn9 (hFr 99) u.1 ++ wFr K hFr u.2 ++ wRo K hRo sRo) t) (va_A (wMn K hMn rMn0 (hRo 99) rMn3 rMn4 rMn5 rMn6 rMn7 rMn8 rMn9 (hFr 99) sMn ++ wFr K hFr sFr ++ wRo K hRo sRo) sz)) 0 0 (va_A (wMn K hMn rMn0 (hRo 99) rMn3 rMn4 rMn5 rMn6 rMn7 rMn8 rMn9 (hFr 99) sMn ++ wFr K hFr sFr ++ wRo K hRo sRo) sz) := by
  refine Met.ofW (cc := cX10_convoy) (maxL := 4) (ret := (some .long)) (by decide) rfl ?_
  intro p e s m args below meth c s₁ B hml hv
  obtain ⟨hargs, hsz, hP, hK, hD0⟩ := hv
  have hx := B.exec
  have hb := B.bytes
  have hr := B.returns
  have hts := atoms_spec (ws := wz_X10_convoy) B.pre
  have htl : ∀ w ∈ wsL_law, w.before args s = true := fun w h => hts w (List.mem_cons_of_mem _ h)
  have hown : s.vm.findClass RX10 = some m.cls := findClass_of_methodNamed B.named
  have hlocks := B.notSynchronized
  subst hsz
  have hD := hD0.self (sz := s.heap.size)
  generalize hAe : va_A (wMn K hMn rMn0 (hRo 99) rMn3 rMn4 rMn5 rMn6 rMn7 rMn8 rMn9 (hFr 99) sMn ++ wFr K hFr sFr ++ wRo K hRo sRo) s.heap.size = A at hD ⊢
  have hA : ∀ q : Nat, s.heap.size ≤ q → A q := fun q h => by rw [← hAe]; exact Or.inr h
  have hS : va_S A s.heap s.heap [] := va_S.rf
  have iX10 : ∀ w ∈ wsX100, w ∈ wz_X10_convoy := fun w h => List.mem_cons_of_mem _ (inlX10 w h)
  have iX9 : ∀ w ∈ wsX90, w ∈ wz_X10_convoy := fun w h => List.mem_cons_of_mem _ (inlX9 w h)
  suffices hgo : ∀ Q : State → Prop, Q = MQ below (va_Ql (fun r u => r = res.1 ∧ u = res.2) (fun u t => BW D K A (wMn K hMn rMn0 (hRo 99) rMn3 rMn4 rMn5 rMn6 rMn7 rMn8 rMn9 (hFr 99) u.1 ++ wFr K hFr u.2 ++ wRo K hRo sRo) t) A) args s 0 0 A → W p l e (headSpec wz_X10_convoy r_X10_convoy).room s m args below meth c s.heap [] 0 0 Q (entryFrame m args 4) from hgo _ rfl
  intro Q hQ
  have w28 : ∀ (sMn : MS), ∀ (sFr : MS), ∀ (H : Heap) (locs : List Loc) (ls : Array Slot), f_X10_convoy_28 F sRo p1 p2 sMn sFr = some res → va_P D vwCl (wMn K hMn rMn0 (hRo 99) rMn3 rMn4 rMn5 rMn6 rMn7 rMn8 rMn9 (hFr 99) sMn ++ wFr K hFr sFr ++ wRo K hRo sRo) H → va_D A (wMn K hMn rMn0 (hRo 99) rMn3 rMn4 rMn5 rMn6 rMn7 rMn8 rMn9 (hFr 99) sMn ++ wFr K hFr sFr ++ wRo K hRo sRo) → va_S A s.heap H locs → lv_has ls 4 [(0, .ref (hMn 99))] → W p l e (headSpec wz_X10_convoy r_X10_convoy).room s m args below meth c H locs 0 0 Q (F0 m 28 ls []) := by
    intro sMn sFr H locs ls hf hP hD hS hl
    unfold f_X10_convoy_28 at hf
    refine lv_aload_n hx hb dX10_convoy_28 rfl (lv_at hl 0 rfl) ?_
    refine lv_iconst (v := (2 : Int32)) hx hb dX10_convoy_29 (by decide) ?_
    obtain ⟨o11, go11, hf⟩ := bd_s hf
    refine rk_Vi (wn := wMn K hMn rMn0 (hRo 99) rMn3 rMn4 rMn5 rMn6 rMn7 rMn8 rMn9 (hFr 99) o11.2 ++ wFr K hFr sFr ++ wRo K hRo sRo) [wMn K hMn rMn0 (hRo 99) rMn3 rMn4 rMn5 rMn6 rMn7 rMn8 rMn9 (hFr 99) sMn, wFr K hFr sFr, wRo K hRo sRo] [wMn K hMn rMn0 (hRo 99) rMn3 rMn4 rMn5 rMn6 rMn7 rMn8 rMn9 (hFr 99) sMn] [wMn K hMn rMn0 (hRo 99) rMn3 rMn4 rMn5 rMn6 rMn7 rMn8 rMn9 (hFr 99) o11.2] [wMn K hMn rMn0 (hRo 99) rMn3 rMn4 rMn5 rMn6 rMn7 rMn8 rMn9 (hFr 99) o11.2, wFr K hFr sFr, wRo K hRo sRo] (As := [.int (2 : Int32)]) (rest := []) ⟨hx, hb, hml, hown, hts⟩ (c_X10_refuse l D K F hMn rMn0 (hRo 99) rMn3 rMn4 rMn5 rMn6 rMn7 rMn8 rMn9 (hFr 99) H.size sMn (2 : Int32) o11 go11) (cwV 1 hts (gcV_X10_refuse (mB7 _ (List.mem_of_getElem? (i := 18) rfl))) rfl rfl rfl hdV_X10_refuse ⟨Nat.le_of_ble_eq_true rfl, Nat.le_of_ble_eq_true rfl⟩) hK hP hD hS hA [0] (fl3 _ _ _) rfl (by decide) (fl1 _) (fl1 _) rfl rfl (fl3 _ _ _) (va_recv hK hP (ci := 9) (q0 := 0) rfl (rwl (rwl o_Mn))) rfl hl.1 rfl (Nat.le_of_ble_eq_true rfl) dX10_convoy_30 ⟨Nat.zero_le _, Nat.zero_le _⟩ (fun H locs hP hD hS => ?_)
    have hP : va_P D vwCl (wMn K hMn rMn0 (hRo 99) rMn3 rMn4 rMn5 rMn6 rMn7 rMn8 rMn9 (hFr 99) o11.2 ++ wFr K hFr sFr ++ wRo K hRo sRo) H := hP
    have hD : va_D A (wMn K hMn rMn0 (hRo 99) rMn3 rMn4 rMn5 rMn6 rMn7 rMn8 rMn9 (hFr 99) o11.2 ++ wFr K hFr sFr ++ wRo K hRo sRo) := hD
    refine lv_i2l (v := o11.1.toInt64) hx hb dX10_convoy_33 rfl ?_
    have e9 := Option.some.inj hf
    rw [hQ]
    exact W.lret (v := o11.1.toInt64) hx hb hr (fun t ht hW => ⟨⟨o11.1.toInt64, (o11.2, sFr), rfl, ⟨pr1 e9, pr2 e9⟩, ⟨by rw [ht]; exact hP, va_K.moved hW.alike hK, hD⟩⟩, hS.F ht⟩) hS.2.2 dX10_convoy_34
  have w74 : ∀ (sMn : MS), ∀ (sFr : MS), ∀ (H : Heap) (locs : List Loc) (ls : Array Slot), f_X10_convoy_74 F sRo p1 p2 sMn sFr = some res → va_P D vwCl (wMn K hMn rMn0 (hRo 99) rMn3 rMn4 rMn5 rMn6 rMn7 rMn8 rMn9 (hFr 99) sMn ++ wFr K hFr sFr ++ wRo K hRo sRo) H → va_D A (wMn K hMn rMn0 (hRo 99) rMn3 rMn4 rMn5 rMn6 rMn7 rMn8 rMn9 (hFr 99) sMn ++ wFr K hFr sFr ++ wRo K hRo sRo) → va_S A s.heap H locs → lv_has ls 4 [(0, .ref (hMn 99)), (2, .int p2)] → W p l e (headSpec wz_X10_convoy r_X10_convoy).room s m args below meth c H locs 0 0 Q (F0 m 74 ls []) := by
    intro sMn sFr H locs ls hf hP hD hS hl
    unfold f_X10_convoy_74 at hf
    refine lv_aload_n hx hb dX10_convoy_74 rfl (lv_at hl 0 rfl) ?_
    refine lv_iload_n hx hb dX10_convoy_75 rfl (lv_at hl 1 rfl) ?_
    obtain ⟨o10, go10, hf⟩ := bd_s hf
    refine rk_Vl (wn := wMn K hMn rMn0 (hRo 99) rMn3 rMn4 rMn5 rMn6 rMn7 rMn8 rMn9 (hFr 99) o10.2 ++ wFr K hFr sFr ++ wRo K hRo sRo) [wMn K hMn rMn0 (hRo 99) rMn3 rMn4 rMn5 rMn6 rMn7 rMn8 rMn9 (hFr 99) sMn, wFr K hFr sFr, wRo K hRo sRo] [wMn K hMn rMn0 (hRo 99) rMn3 rMn4 rMn5 rMn6 rMn7 rMn8 rMn9 (hFr 99) sMn, wFr K hFr sFr] [wMn K hMn rMn0 (hRo 99) rMn3 rMn4 rMn5 rMn6 rMn7 rMn8 rMn9 (hFr 99) o10.2, wFr K hFr sFr] [wMn K hMn rMn0 (hRo 99) rMn3 rMn4 rMn5 rMn6 rMn7 rMn8 rMn9 (hFr 99) o10.2, wFr K hFr sFr, wRo K hRo sRo] (As := [.int p2]) (rest := []) ⟨hx, hb, hml, hown, hts⟩ (c_X10_acceptFraction l D K F hMn rMn0 (hRo 99) rMn3 rMn4 rMn5 rMn6 rMn7 rMn8 rMn9 hFr H.size sMn sFr p2 o10 go10) (cwV 1 hts (gcV_X10_acceptFraction (mB44 _ (List.mem_of_getElem? (i := 5) rfl))) rfl rfl rfl hdV_X10_acceptFraction ⟨Nat.le_of_ble_eq_true rfl, Nat.le_of_ble_eq_true rfl⟩) hK hP hD hS hA [0, 1] (fl3 _ _ _) rfl (by decide) (fl2 _ _) (fl2 _ _) rfl rfl (fl3 _ _ _) (va_recv hK hP (ci := 9) (q0 := 0) rfl (rwl (rwl o_Mn))) rfl hl.1 rfl (Nat.le_of_ble_eq_true rfl) dX10_convoy_76 ⟨Nat.zero_le _, Nat.zero_le _⟩ (fun H locs hP hD hS => ?_)
    have hP : va_P D vwCl (wMn K hMn rMn0 (hRo 99) rMn3 rMn4 rMn5 rMn6 rMn7 rMn8 rMn9 (hFr 99) o10.2 ++ wFr K hFr sFr ++ wRo K hRo sRo) H := hP
    have hD : va_D A (wMn K hMn rMn0 (hRo 99) rMn3 rMn4 rMn5 rMn6 rMn7 rMn8 rMn9 (hFr 99) o10.2 ++ wFr K hFr sFr ++ wRo K hRo sRo) := hD
    have e9 := Option.some.inj hf
    rw [hQ]
    exact W.lret (v := o10.1) hx hb hr (fun t ht hW => ⟨⟨o10.1, (o10.2, sFr), rfl, ⟨pr1 e9, pr2 e9⟩, ⟨by rw [ht]; exact hP, va_K.moved hW.alike hK, hD⟩⟩, hS.F ht⟩) hS.2.2 dX10_convoy_79
  have w46 : ∀ (n : Nat), ∀ (x3 : Int32), ∀ (sMn : MS), ∀ (sFr : MS), ∀ (H : Heap) (locs : List Loc) (ls : Array Slot), f_X10_convoy_46 F sRo p1 p2 n x3 sMn sFr = some res → va_P D vwCl (wMn K hMn rMn0 (hRo 99) rMn3 rMn4 rMn5 rMn6 rMn7 rMn8 rMn9 (hFr 99) sMn ++ wFr K hFr sFr ++ wRo K hRo sRo) H → va_D A (wMn K hMn rMn0 (hRo 99) rMn3 rMn4 rMn5 rMn6 rMn7 rMn8 rMn9 (hFr 99) sMn ++ wFr K hFr sFr ++ wRo K hRo sRo) → va_S A s.heap H locs → lv_has ls 4 [(0, .ref (hMn 99)), (1, .int p1), (2, .int p2), (3, .int x3)] → W p l e (headSpec wz_X10_convoy r_X10_convoy).room s m args below meth c H locs 0 0 Q (F0 m 46 ls []) := by
    intro n
    induction n with
    | zero =>
      intro x3 sMn sFr H locs ls hf
      exact absurd (show none = some res from hf) (fun h => nomatch h)
    | succ n ih =>
      intro x3 sMn sFr H locs ls hf hP hD hS hl
      rw [f_X10_convoy_46] at hf
      refine lv_iload_n hx hb dX10_convoy_46 rfl (lv_at hl 3 rfl) ?_
      refine lv_iload_n hx hb dX10_convoy_47 rfl (lv_at hl 1 rfl) ?_
      refine lv_icmp_gt (tgt := 74) hx hb dX10_convoy_48 (by decide) (fun c7 => ?_) (fun c7 => ?_)
      · have hf := it_t hf c7
        exact w74 sMn sFr H locs ls hf hP hD hS (lv_sub hl [0, 2] rfl)
      · have hf := it_f hf c7
        refine lv_aload_n hx hb dX10_convoy_51 rfl (lv_at hl 0 rfl) ?_
        refine va_get (D := D) (ci := 9) (v := .ref (hFr 99)) (C := RX10) (T := TX10) (N := 14) hx hb hts iX10 hown hK hP 0 (rwl (rwl o_Mn)) rfl 10 (by decide) (htl _ (mB2 _ (List.mem_of_getElem? (i := 23) rfl))) (fun _ h9 => h9) rfl dX10_convoy_52 ?_
        refine lv_aload_n hx hb dX10_convoy_55 rfl (lv_at hl 0 rfl) ?_
        refine va_get (D := D) (ci := 9) (v := .ref (hRo 99)) (C := RX10) (T := TX10) (N := 14) hx hb hts iX10 hown hK hP 0 (rwl (rwl o_Mn)) rfl 2 (by decide) (htl _ (mB1 _ (List.mem_of_getElem? (i := 18) rfl))) (fun _ h9 => h9) rfl dX10_convoy_56 ?_
        refine va_get (D := D) (ci := 8) (v := .int (sRo.1 0)) (C := RX9) (T := TX9) (N := 19) hx hb hts iX9 hown hK hP ((1 + 1) + 0) (rwr (lnA ln_Mn ln_Fr) o_Ro) rfl 0 (by decide) (htl _ (mB52 _ (List.mem_of_getElem? (i := 22) rfl))) (fun _ h9 => h9) rfl dX10_convoy_59 ?_
        refine lv_i2l (v := (sRo.1 0).toInt64) hx hb dX10_convoy_62 rfl ?_
        refine lv_iload_n hx hb dX10_convoy_63 rfl (lv_at hl 3 rfl) ?_
        refine lv_i2l (v := x3.toInt64) hx hb dX10_convoy_64 rfl ?_
        obtain ⟨o8, go8, hf⟩ := bd_s hf
        refine rk_Vv (wn := wMn K hMn rMn0 (hRo 99) rMn3 rMn4 rMn5 rMn6 rMn7 rMn8 rMn9 (hFr 99) sMn ++ wFr K hFr o8 ++ wRo K hRo sRo) [wMn K hMn rMn0 (hRo 99) rMn3 rMn4 rMn5 rMn6 rMn7 rMn8 rMn9 (hFr 99) sMn, wFr K hFr sFr, wRo K hRo sRo] [wFr K hFr sFr] [wFr K hFr o8] [wMn K hMn rMn0 (hRo 99) rMn3 rMn4 rMn5 rMn6 rMn7 rMn8 rMn9 (hFr 99) sMn, wFr K hFr o8, wRo K hRo sRo] (As := [.long ((sRo.1 0).toInt64), .long x3.toInt64]) (rest := []) ⟨hx, hb, hml, hown, hts⟩ (c_X2_plus l D K F hFr H.size sFr ((sRo.1 0).toInt64) x3.toInt64 o8 go8) (cwV 2 hts (gcV_X2_plus (mB53 _ (List.mem_of_getElem? (i := 0) rfl))) rfl rfl rfl hdV_X2_plus ⟨Nat.le_of_ble_eq_true rfl, Nat.le_of_ble_eq_true rfl⟩) hK hP hD hS hA [1] (fl3 _ _ _) rfl (by decide) (fl1 _) (fl1 _) rfl rfl (fl3 _ _ _) (va_recv hK hP (ci := 2) (q0 := (1 + 0)) rfl (rwl (rwr ln_Mn o_Fr))) rfl hl.1 rfl (Nat.le_of_ble_eq_true rfl) dX10_convoy_65 ⟨Nat.zero_le _, Nat.zero_le _⟩ (fun H locs hP hD hS => ?_)
        have hP : va_P D vwCl (wMn K hMn rMn0 (hRo 99) rMn3 rMn4 rMn5 rMn6 rMn7 rMn8 rMn9 (hFr 99) sMn ++ wFr K hFr o8 ++ wRo K hRo sRo) H := hP
        have hD : va_D A (wMn K hMn rMn0 (hRo 99) rMn3 rMn4 rMn5 rMn6 rMn7 rMn8 rMn9 (hFr 99) sMn ++ wFr K hFr o8 ++ wRo K hRo sRo) := hD
        obtain ⟨v9, ev9⟩ : ∃ z : Int32, z = x3 + (1 : Int32) := ⟨_, rfl⟩
        have hf := lz_s hf v9 ev9
        refine lv_iinc (v := v9) (lv' := [(3, .int v9), (0, .ref (hMn 99)), (1, .int p1), (2, .int p2)]) hx hb dX10_convoy_68 hl (k := 3) rfl (by rw [ev9]; rfl) (by decide) rfl (fun ls hl => ?_)
        refine lv_goto (tgt := 46) hx hb dX10_convoy_71 (by decide) ?_
        exact ih v9 sMn o8 H locs ls hf hP hD hS (lv_sub hl [1, 2, 3, 0] rfl)
  have hen : entryFrame m args 4 = entryFrame m (([.ref (hMn 99), .int p1, .int p2] : List Value).toArray) 4 := by rw [hargs]
  have hl := lv_entry ([.ref (hMn 99), .int p1, .int p2]) (n := 4) (Nat.le_of_ble_eq_true rfl)
  rw [hen, lg_entry_eq]
  generalize (lg_sl ([.ref (hMn 99), .int p1, .int p2]) ++ List.replicate (4 - (lg_sl ([.ref (hMn 99), .int p1, .int p2])).length) Slot.unset).toArray = ls at hl ⊢
  have hl : lv_has ls 4 [(0, .ref (hMn 99)), (1, .int p1), (2, .int p2)] := hl
  unfold f_X10_convoy at hf
  obtain ⟨H, hHe⟩ : ∃ z, z = s.heap := ⟨_, rfl⟩
  obtain ⟨locs, hLe⟩ : ∃ z : List Loc, z = [] := ⟨_, rfl⟩
  rw [← hLe]
  have hS : va_S A s.heap H locs := by rw [hHe, hLe]; exact hS
  have hP : va_P D vwCl (wMn K hMn rMn0 (hRo 99) rMn3 rMn4 rMn5 rMn6 rMn7 rMn8 rMn9 (hFr 99) sMn ++ wFr K hFr sFr ++ wRo K hRo sRo) H := by rw [hHe]; exact hP
  have hgo : W p l e (headSpec wz_X10_convoy r_X10_convoy).room s m args below meth c H locs 0 0 Q (F0 m 0 ls []) := by
    refine lv_aload_n hx hb dX10_convoy_0 rfl (lv_at hl 0 rfl) ?_
    refine va_get (D := D) (ci := 9) (v := .ref (hRo 99)) (C := RX10) (T := TX10) (N := 14) hx hb hts iX10 hown hK hP 0 (rwl (rwl o_Mn)) rfl 2 (by decide) (htl _ (mB1 _ (List.mem_of_getElem? (i := 18) rfl))) (fun _ h9 => h9) rfl dX10_convoy_1 ?_
    obtain ⟨o1, go1, hf⟩ := bd_s hf
    refine ro_Vi (As := []) (rest := []) ⟨hx, hb, hml, hown, hts⟩ (c_X9_isTold l D K F hRo sRo o1 go1) (cwV 0 hts (gcV_X9_isTold (mB30 _ (List.mem_of_getElem? (i := 0) rfl))) rfl rfl rfl hdV_X9_isTold ⟨Nat.le_of_ble_eq_true rfl, Nat.le_of_ble_eq_true rfl⟩) hK hP hS (va_PL (cs := [wMn K hMn rMn0 (hRo 99) rMn3 rMn4 rMn5 rMn6 rMn7 rMn8 rMn9 (hFr 99) sMn, wFr K hFr sFr, wRo K hRo sRo]) (cc := [wRo K hRo sRo]) hP (fl3 _ _ _) [2] rfl (fl1 _)) (va_recv hK hP (ci := 8) (q0 := ((1 + 1) + 0)) rfl (rwr (lnA ln_Mn ln_Fr) o_Ro)) rfl hl.1 rfl (Nat.le_of_ble_eq_true rfl) dX10_convoy_4 ⟨Nat.zero_le _, Nat.zero_le _⟩ (fun H locs hP hS => ?_)
    refine lv_if_ne (tgt := 17) hx hb dX10_convoy_7 (by decide) (fun c2 => ?_) (fun c2 => ?_)
    · have hf := it_f hf c2
      refine lv_iload_n hx hb dX10_convoy_17 rfl (lv_at hl 1 rfl) ?_
      refine lv_iconst (v := (1 : Int32)) hx hb dX10_convoy_18 (by decide) ?_
      refine lv_icmp_lt (tgt := 28) hx hb dX10_convoy_19 (by decide) (fun c3 => ?_) (fun c3 => ?_)
      · have hf := it_t hf c3
        exact w28 sMn sFr H locs ls hf hP hD hS (lv_sub hl [0] rfl)
      · have hf := it_f hf c3
        refine lv_iload_n hx hb dX10_convoy_22 rfl (lv_at hl 1 rfl) ?_
        refine lv_bipush (v := (12 : Int32)) hx hb dX10_convoy_23 (by decide) ?_
        refine lv_icmp_le (tgt := 35) hx hb dX10_convoy_25 (by decide) (fun c4 => ?_) (fun c4 => ?_)
        · have hf := it_t hf c4
          refine lv_aload_n hx hb dX10_convoy_35 rfl (lv_at hl 0 rfl) ?_
          refine va_get (D := D) (ci := 9) (v := .ref (hFr 99)) (C := RX10) (T := TX10) (N := 14) hx hb hts iX10 hown hK hP 0 (rwl (rwl o_Mn)) rfl 10 (by decide) (htl _ (mB2 _ (List.mem_of_getElem? (i := 23) rfl))) (fun _ h9 => h9) rfl dX10_convoy_36 ?_
          refine lv_lconst (v := (0 : Int64)) hx hb dX10_convoy_39 (by decide) ?_
          refine lv_lconst (v := (1 : Int64)) hx hb dX10_convoy_40 (by decide) ?_
          obtain ⟨o5, go5, hf⟩ := bd_s hf
          refine rk_Vv (wn := wMn K hMn rMn0 (hRo 99) rMn3 rMn4 rMn5 rMn6 rMn7 rMn8 rMn9 (hFr 99) sMn ++ wFr K hFr o5 ++ wRo K hRo sRo) [wMn K hMn rMn0 (hRo 99) rMn3 rMn4 rMn5 rMn6 rMn7 rMn8 rMn9 (hFr 99) sMn, wFr K hFr sFr, wRo K hRo sRo] [wFr K hFr sFr] [wFr K hFr o5] [wMn K hMn rMn0 (hRo 99) rMn3 rMn4 rMn5 rMn6 rMn7 rMn8 rMn9 (hFr 99) sMn, wFr K hFr o5, wRo K hRo sRo] (As := [.long (0 : Int64), .long (1 : Int64)]) (rest := []) ⟨hx, hb, hml, hown, hts⟩ (c_X2_become l D K F hFr H.size sFr (0 : Int64) (1 : Int64) o5 go5) (cwV 2 hts (gcV_X2_become (mB52 _ (List.mem_of_getElem? (i := 23) rfl))) rfl rfl rfl hdV_X2_become ⟨Nat.le_of_ble_eq_true rfl, Nat.le_of_ble_eq_true rfl⟩) hK hP hD hS hA [1] (fl3 _ _ _) rfl (by decide) (fl1 _) (fl1 _) rfl rfl (fl3 _ _ _) (va_recv hK hP (ci := 2) (q0 := (1 + 0)) rfl (rwl (rwr ln_Mn o_Fr))) rfl hl.1 rfl (Nat.le_of_ble_eq_true rfl) dX10_convoy_41 ⟨Nat.zero_le _, Nat.zero_le _⟩ (fun H locs hP hD hS => ?_)
          have hP : va_P D vwCl (wMn K hMn rMn0 (hRo 99) rMn3 rMn4 rMn5 rMn6 rMn7 rMn8 rMn9 (hFr 99) sMn ++ wFr K hFr o5 ++ wRo K hRo sRo) H := hP
          have hD : va_D A (wMn K hMn rMn0 (hRo 99) rMn3 rMn4 rMn5 rMn6 rMn7 rMn8 rMn9 (hFr 99) sMn ++ wFr K hFr o5 ++ wRo K hRo sRo) := hD
          refine lv_iconst (v := (1 : Int32)) hx hb dX10_convoy_44 (by decide) ?_
          refine lv_istore_n (lv' := [(3, .int (1 : Int32)), (0, .ref (hMn 99)), (1, .int p1), (2, .int p2)]) hx hb dX10_convoy_45 rfl hl (by decide) rfl (fun ls hl => ?_)
          exact w46 F (1 : Int32) sMn o5 H locs ls hf hP hD hS (lv_sub hl [1, 2, 3, 0] rfl)
        · have hf := it_f hf c4
          exact w28 sMn sFr H locs ls hf hP hD hS (lv_sub hl [0] rfl)
    · have hf := it_t hf c2
      refine lv_aload_n hx hb dX10_convoy_10 rfl (lv_at hl 0 rfl) ?_
      refine lv_iconst (v := (1 : Int32)) hx hb dX10_convoy_11 (by decide) ?_
      obtain ⟨o6, go6, hf⟩ := bd_s hf
      refine rk_Vi (wn := wMn K hMn rMn0 (hRo 99) rMn3 rMn4 rMn5 rMn6 rMn7 rMn8 rMn9 (hFr 99) o6.2 ++ wFr K hFr sFr ++ wRo K hRo sRo) [wMn K hMn rMn0 (hRo 99) rMn3 rMn4 rMn5 rMn6 rMn7 rMn8 rMn9 (hFr 99) sMn, wFr K hFr sFr, wRo K hRo sRo] [wMn K hMn rMn0 (hRo 99) rMn3 rMn4 rMn5 rMn6 rMn7 rMn8 rMn9 (hFr 99) sMn] [wMn K hMn rMn0 (hRo 99) rMn3 rMn4 rMn5 rMn6 rMn7 rMn8 rMn9 (hFr 99) o6.2] [wMn K hMn rMn0 (hRo 99) rMn3 rMn4 rMn5 rMn6 rMn7 rMn8 rMn9 (hFr 99) o6.2, wFr K hFr sFr, wRo K hRo sRo] (As := [.int (1 : Int32)]) (rest := []) ⟨hx, hb, hml, hown, hts⟩ (c_X10_refuse l D K F hMn rMn0 (hRo 99) rMn3 rMn4 rMn5 rMn6 rMn7 rMn8 rMn9 (hFr 99) H.size sMn (1 : Int32) o6 go6) (cwV 1 hts (gcV_X10_refuse (mB7 _ (List.mem_of_getElem? (i := 18) rfl))) rfl rfl rfl hdV_X10_refuse ⟨Nat.le_of_ble_eq_true rfl, Nat.le_of_ble_eq_true rfl⟩) hK hP hD hS hA [0] (fl3 _ _ _) rfl (by decide) (fl1 _) (fl1 _) rfl rfl (fl3 _ _ _) (va_recv hK hP (ci := 9) (q0 := 0) rfl (rwl (rwl o_Mn))) rfl hl.1 rfl (Nat.le_of_ble_eq_true rfl) dX10_convoy_12 ⟨Nat.zero_le _, Nat.zero_le _⟩ (fun H locs hP hD hS => ?_)
      have hP : va_P D vwCl (wMn K hMn rMn0 (hRo 99) rMn3 rMn4 rMn5 rMn6 rMn7 rMn8 rMn9 (hFr 99) o6.2 ++ wFr K hFr sFr ++ wRo K hRo sRo) H := hP
      have hD : va_D A (wMn K hMn rMn0 (hRo 99) rMn3 rMn4 rMn5 rMn6 rMn7 rMn8 rMn9 (hFr 99) o6.2 ++ wFr K hFr sFr ++ wRo K hRo sRo) := hD
      refine lv_i2l (v := o6.1.toInt64) hx hb dX10_convoy_15 rfl ?_
      have e9 := Option.some.inj hf
      rw [hQ]
      exact W.lret (v := o6.1.toInt64) hx hb hr (fun t ht hW => ⟨⟨o6.1.toInt64, (o6.2, sFr), rfl, ⟨pr1 e9, pr2 e9⟩, ⟨by rw [ht]; exact hP, va_K.moved hW.alike hK, hD⟩⟩, hS.F ht⟩) hS.2.2 dX10_convoy_16
  rw [hHe] at hgo
  exact hgo

theorem gcV_X8_search {T0 : Cond} {own : String} {i : Nat} (h : Cond.methodLink own i yX8_search ∈ wsL_law) : GoodIn (T0 :: wsL_law) (wsV own i RX8 yX8_search wz_X8_search) := gV h (mB55 _ (List.mem_of_getElem? (i := 5) rfl)) (mB55 _ (List.mem_of_getElem? (i := 6) rfl)) (mB2 _ (List.mem_of_getElem? (i := 14) rfl)) (mB55 _ (List.mem_of_getElem? (i := 7) rfl))
theorem hdV_X8_search : yX8_search.cls = RX8 ∧ yX8_search.cls ≠ "java/lang/invoke/MethodHandle" ∧ yX8_search.cls ≠ "java/lang/invoke/VarHandle" ∧ (parseMethodDescriptor yX8_search.desc).map (fun d => d.parameters.length) = some 2 := by decide +kernel
def wz_X10_fits : List Cond := .code yX10_fits cX10_fits 1 (some .int) :: wsL_law
abbrev r_X10_fits : Room := { frames := 26, cells := 0, slots := 0, locals := 649 }
set_option maxHeartbeats 4000000 in
set_option maxRecDepth 100000 in
theorem c_X10_fits (l : Launch) (D : va_G) (K : Nat → ClassId) (F : Nat) (hMn : Nat → Nat) (rMn0 : Nat) (rMn3 : Nat) (rMn4 : Nat) (rMn5 : Nat) (rMn6 : Nat) (rMn7 : Nat) (rMn9 : Nat) (rMn10 : Nat) (hRe : Nat → Nat) (hRo : Nat → Nat) (sz : Nat) (sMn : MS) (sRe : MS) (sRo : MS) (res : Int32 × MS × MS) (hf : f_X10_fits F sRo sMn sRe = some res) : Met l yX10_fits wz_X10_fits r_X10_fits (va_Pc [.ref (hMn 99)] (PW D K (wMn K hMn rMn0 (hRo 99) rMn3 rMn4 rMn5 rMn6 rMn7 (hRe 99) rMn9 rMn10 sMn ++ wRe K hRe sRe ++ wRo K hRo sRo) sz)) (va_Qi (fun r u => r = res.1 ∧ u = res.2) (fun u t => BW D K (va_A (wMn K hMn rMn0 (hRo 99) rMn3 rMn4 rMn5 rMn6 rMn7 (hRe 99) rMn9 rMn10 sMn ++ wRe K hRe sRe ++ wRo K hRo sRo) sz) (wMn K hMn rMn0 (hRo 99) rMn3 rMn4 rMn5 rMn6 rMn7 (hRe 99) rMn9 rMn10 u.1 ++ wRe K hRe u.2 ++ wRo K hRo sRo) t) (va_A (wMn K hMn rMn0 (hRo 99) rMn3 rMn4 rMn5 rMn6 rMn7 (hRe 99) rMn9 rMn10 sMn ++ wRe K hRe sRe ++ wRo K hRo sRo) sz)) 0 0 (va_A (wMn K hMn rMn0 (hRo 99) rMn3 rMn4 rMn5 rMn6 rMn7 (hRe 99) rMn9 rMn10 sMn ++ wRe K hRe sRe ++ wRo K hRo sRo) sz) := by
  refine Met.ofW (cc := cX10_fits) (maxL := 1) (ret := (some .int)) (by decide) rfl ?_
  intro p e s m args below meth c s₁ B hml hv
  obtain ⟨hargs, hsz, hP, hK, hD0⟩ := hv
  have hx := B.exec
  have hb := B.bytes
  have hr := B.returns
  have hts := atoms_spec (ws := wz_X10_fits) B.pre
  have htl : ∀ w ∈ wsL_law, w.before args s = true := fun w h => hts w (List.mem_cons_of_mem _ h)
  have hown : s.vm.findClass RX10 = some m.cls := findClass_of_methodNamed B.named
  have hlocks := B.notSynchronized
  subst hsz
  have hD := hD0.self (sz := s.heap.size)
  generalize hAe : va_A (wMn K hMn rMn0 (hRo 99) rMn3 rMn4 rMn5 rMn6 rMn7 (hRe 99) rMn9 rMn10 sMn ++ wRe K hRe sRe ++ wRo K hRo sRo) s.heap.size = A at hD ⊢
  have hA : ∀ q : Nat, s.heap.size ≤ q → A q := fun q h => by rw [← hAe]; exact Or.inr h
  have hS : va_S A s.heap s.heap [] := va_S.rf
  have iX10 : ∀ w ∈ wsX100, w ∈ wz_X10_fits := fun w h => List.mem_cons_of_mem _ (inlX10 w h)
  have iX8 : ∀ w ∈ wsX80, w ∈ wz_X10_fits := fun w h => List.mem_cons_of_mem _ (inlX8 w h)
  suffices hgo : ∀ Q : State → Prop, Q = MQ below (va_Qi (fun r u => r = res.1 ∧ u = res.2) (fun u t => BW D K A (wMn K hMn rMn0 (hRo 99) rMn3 rMn4 rMn5 rMn6 rMn7 (hRe 99) rMn9 rMn10 u.1 ++ wRe K hRe u.2 ++ wRo K hRo sRo) t) A) args s 0 0 A → W p l e (headSpec wz_X10_fits r_X10_fits).room s m args below meth c s.heap [] 0 0 Q (entryFrame m args 1) from hgo _ rfl
  intro Q hQ
  have hen : entryFrame m args 1 = entryFrame m (([.ref (hMn 99)] : List Value).toArray) 1 := by rw [hargs]
  have hl := lv_entry ([.ref (hMn 99)]) (n := 1) (Nat.le_of_ble_eq_true rfl)
  rw [hen, lg_entry_eq]
  generalize (lg_sl ([.ref (hMn 99)]) ++ List.replicate (1 - (lg_sl ([.ref (hMn 99)])).length) Slot.unset).toArray = ls at hl ⊢
  have hl : lv_has ls 1 [(0, .ref (hMn 99))] := hl
  unfold f_X10_fits at hf
  obtain ⟨H, hHe⟩ : ∃ z, z = s.heap := ⟨_, rfl⟩
  obtain ⟨locs, hLe⟩ : ∃ z : List Loc, z = [] := ⟨_, rfl⟩
  rw [← hLe]
  have hS : va_S A s.heap H locs := by rw [hHe, hLe]; exact hS
  have hP : va_P D vwCl (wMn K hMn rMn0 (hRo 99) rMn3 rMn4 rMn5 rMn6 rMn7 (hRe 99) rMn9 rMn10 sMn ++ wRe K hRe sRe ++ wRo K hRo sRo) H := by rw [hHe]; exact hP
  have hgo : W p l e (headSpec wz_X10_fits r_X10_fits).room s m args below meth c H locs 0 0 Q (F0 m 0 ls []) := by
    refine lv_aload_n hx hb dX10_fits_0 rfl (lv_at hl 0 rfl) ?_
    refine va_get (D := D) (ci := 9) (v := .ref (hRo 99)) (C := RX10) (T := TX10) (N := 14) hx hb hts iX10 hown hK hP 0 (rwl (rwl o_Mn)) rfl 2 (by decide) (htl _ (mB1 _ (List.mem_of_getElem? (i := 18) rfl))) (fun _ h9 => h9) rfl dX10_fits_1 ?_
    obtain ⟨o1, go1, hf⟩ := bd_s hf
    refine ro_Vi (As := []) (rest := []) ⟨hx, hb, hml, hown, hts⟩ (c_X9_isTold l D K F hRo sRo o1 go1) (cwV 0 hts (gcV_X9_isTold (mB30 _ (List.mem_of_getElem? (i := 0) rfl))) rfl rfl rfl hdV_X9_isTold ⟨Nat.le_of_ble_eq_true rfl, Nat.le_of_ble_eq_true rfl⟩) hK hP hS (va_PL (cs := [wMn K hMn rMn0 (hRo 99) rMn3 rMn4 rMn5 rMn6 rMn7 (hRe 99) rMn9 rMn10 sMn, wRe K hRe sRe, wRo K hRo sRo]) (cc := [wRo K hRo sRo]) hP (fl3 _ _ _) [2] rfl (fl1 _)) (va_recv hK hP (ci := 8) (q0 := ((1 + 3) + 0)) rfl (rwr (lnA ln_Mn ln_Re) o_Ro)) rfl hl.1 rfl (Nat.le_of_ble_eq_true rfl) dX10_fits_4 ⟨Nat.zero_le _, Nat.zero_le _⟩ (fun H locs hP hS => ?_)
    refine lv_if_ne (tgt := 16) hx hb dX10_fits_7 (by decide) (fun c2 => ?_) (fun c2 => ?_)
    · have hf := it_f hf c2
      refine lv_aload_n hx hb dX10_fits_16 rfl (lv_at hl 0 rfl) ?_
      refine va_get (D := D) (ci := 9) (v := .ref (hRe 99)) (C := RX10) (T := TX10) (N := 14) hx hb hts iX10 hown hK hP 0 (rwl (rwl o_Mn)) rfl 8 (by decide) (htl _ (mB2 _ (List.mem_of_getElem? (i := 15) rfl))) (fun _ h9 => h9) rfl dX10_fits_17 ?_
      refine lv_aload_n hx hb dX10_fits_20 rfl (lv_at hl 0 rfl) ?_
      refine va_get (D := D) (ci := 9) (v := .ref (hRo 99)) (C := RX10) (T := TX10) (N := 14) hx hb hts iX10 hown hK hP 0 (rwl (rwl o_Mn)) rfl 2 (by decide) (htl _ (mB1 _ (List.mem_of_getElem? (i := 18) rfl))) (fun _ h9 => h9) rfl dX10_fits_21 ?_
      refine lv_iconst (v := (-1 : Int32)) hx hb dX10_fits_24 (by decide) ?_
      obtain ⟨o3, go3, hf⟩ := bd_s hf
      refine rk_Vv (wn := wMn K hMn rMn0 (hRo 99) rMn3 rMn4 rMn5 rMn6 rMn7 (hRe 99) rMn9 rMn10 sMn ++ wRe K hRe o3 ++ wRo K hRo sRo) [wMn K hMn rMn0 (hRo 99) rMn3 rMn4 rMn5 rMn6 rMn7 (hRe 99) rMn9 rMn10 sMn, wRe K hRe sRe, wRo K hRo sRo] [wRe K hRe sRe, wRo K hRo sRo] [wRe K hRe o3, wRo K hRo sRo] [wMn K hMn rMn0 (hRo 99) rMn3 rMn4 rMn5 rMn6 rMn7 (hRe 99) rMn9 rMn10 sMn, wRe K hRe o3, wRo K hRo sRo] (As := [.ref (hRo 99), .int (-1 : Int32)]) (rest := []) ⟨hx, hb, hml, hown, hts⟩ (c_X8_search l D K F hRe hRo H.size sRe sRo (-1 : Int32) o3 go3) (cwV 2 hts (gcV_X8_search (mB55 _ (List.mem_of_getElem? (i := 4) rfl))) rfl rfl rfl hdV_X8_search ⟨Nat.le_of_ble_eq_true rfl, Nat.le_of_ble_eq_true rfl⟩) hK hP hD hS hA [1, 2] (fl3 _ _ _) rfl (by decide) (fl2 _ _) (fl2 _ _) rfl rfl (fl3 _ _ _) (va_recv hK hP (ci := 7) (q0 := (1 + 0)) rfl (rwl (rwr ln_Mn o_Re))) rfl hl.1 rfl (Nat.le_of_ble_eq_true rfl) dX10_fits_25 ⟨Nat.zero_le _, Nat.zero_le _⟩ (fun H locs hP hD hS => ?_)
      have hP : va_P D vwCl (wMn K hMn rMn0 (hRo 99) rMn3 rMn4 rMn5 rMn6 rMn7 (hRe 99) rMn9 rMn10 sMn ++ wRe K hRe o3 ++ wRo K hRo sRo) H := hP
      have hD : va_D A (wMn K hMn rMn0 (hRo 99) rMn3 rMn4 rMn5 rMn6 rMn7 (hRe 99) rMn9 rMn10 sMn ++ wRe K hRe o3 ++ wRo K hRo sRo) := hD
      refine lv_aload_n hx hb dX10_fits_28 rfl (lv_at hl 0 rfl) ?_
      refine lv_aload_n hx hb dX10_fits_29 rfl (lv_at hl 0 rfl) ?_
      refine va_get (D := D) (ci := 9) (v := .ref (hRe 99)) (C := RX10) (T := TX10) (N := 14) hx hb hts iX10 hown hK hP 0 (rwl (rwl o_Mn)) rfl 8 (by decide) (htl _ (mB2 _ (List.mem_of_getElem? (i := 15) rfl))) (fun _ h9 => h9) rfl dX10_fits_30 ?_
      refine va_get (D := D) (ci := 7) (v := .int (o3.1 0)) (C := RX8) (T := TX8) (N := 8) hx hb hts iX8 hown hK hP (1 + 0) (rwl (rwr ln_Mn o_Re)) rfl 0 (by decide) (htl _ (mB55 _ (List.mem_of_getElem? (i := 3) rfl))) (fun _ h9 => h9) rfl dX10_fits_33 ?_
      obtain ⟨o4, go4, hf⟩ := bd_s hf
      refine rk_Vi (wn := wMn K hMn rMn0 (hRo 99) rMn3 rMn4 rMn5 rMn6 rMn7 (hRe 99) rMn9 rMn10 o4.2 ++ wRe K hRe o3 ++ wRo K hRo sRo) [wMn K hMn rMn0 (hRo 99) rMn3 rMn4 rMn5 rMn6 rMn7 (hRe 99) rMn9 rMn10 sMn, wRe K hRe o3, wRo K hRo sRo] [wMn K hMn rMn0 (hRo 99) rMn3 rMn4 rMn5 rMn6 rMn7 (hRe 99) rMn9 rMn10 sMn] [wMn K hMn rMn0 (hRo 99) rMn3 rMn4 rMn5 rMn6 rMn7 (hRe 99) rMn9 rMn10 o4.2] [wMn K hMn rMn0 (hRo 99) rMn3 rMn4 rMn5 rMn6 rMn7 (hRe 99) rMn9 rMn10 o4.2, wRe K hRe o3, wRo K hRo sRo] (As := [.int (o3.1 0)]) (rest := []) ⟨hx, hb, hml, hown, hts⟩ (c_X10_accept l D K F hMn rMn0 (hRo 99) rMn3 rMn4 rMn5 rMn6 rMn7 (hRe 99) rMn9 rMn10 H.size sMn (o3.1 0) o4 go4) (cwV 1 hts (gcV_X10_accept (mB17 _ (List.mem_of_getElem? (i := 14) rfl))) rfl rfl rfl hdV_X10_accept ⟨Nat.le_of_ble_eq_true rfl, Nat.le_of_ble_eq_true rfl⟩) hK hP hD hS hA [0] (fl3 _ _ _) rfl (by decide) (fl1 _) (fl1 _) rfl rfl (fl3 _ _ _) (va_recv hK hP (ci := 9) (q0 := 0) rfl (rwl (rwl o_Mn))) rfl hl.1 rfl (Nat.le_of_ble_eq_true rfl) dX10_fits_36 ⟨Nat.zero_le _, Nat.zero_le _⟩ (fun H locs hP hD hS => ?_)
      have hP : va_P D vwCl (wMn K hMn rMn0 (hRo 99) rMn3 rMn4 rMn5 rMn6 rMn7 (hRe 99) rMn9 rMn10 o4.2 ++ wRe K hRe o3 ++ wRo K hRo sRo) H := hP
      have hD : va_D A (wMn K hMn rMn0 (hRo 99) rMn3 rMn4 rMn5 rMn6 rMn7 (hRe 99) rMn9 rMn10 o4.2 ++ wRe K hRe o3 ++ wRo K hRo sRo) := hD
      have e9 := Option.some.inj hf
      rw [hQ]
      exact W.iret (v := o4.1) hx hb hr (fun t ht hW => ⟨⟨o4.1, (o4.2, o3), rfl, ⟨pr1 e9, pr2 e9⟩, ⟨by rw [ht]; exact hP, va_K.moved hW.alike hK, hD⟩⟩, hS.F ht⟩) hS.2.2 dX10_fits_39
    · have hf := it_t hf c2
      refine lv_aload_n hx hb dX10_fits_10 rfl (lv_at hl 0 rfl) ?_
      refine lv_iconst (v := (1 : Int32)) hx hb dX10_fits_11 (by decide) ?_
      obtain ⟨o5, go5, hf⟩ := bd_s hf
      refine rk_Vi (wn := wMn K hMn rMn0 (hRo 99) rMn3 rMn4 rMn5 rMn6 rMn7 (hRe 99) rMn9 rMn10 o5.2 ++ wRe K hRe sRe ++ wRo K hRo sRo) [wMn K hMn rMn0 (hRo 99) rMn3 rMn4 rMn5 rMn6 rMn7 (hRe 99) rMn9 rMn10 sMn, wRe K hRe sRe, wRo K hRo sRo] [wMn K hMn rMn0 (hRo 99) rMn3 rMn4 rMn5 rMn6 rMn7 (hRe 99) rMn9 rMn10 sMn] [wMn K hMn rMn0 (hRo 99) rMn3 rMn4 rMn5 rMn6 rMn7 (hRe 99) rMn9 rMn10 o5.2] [wMn K hMn rMn0 (hRo 99) rMn3 rMn4 rMn5 rMn6 rMn7 (hRe 99) rMn9 rMn10 o5.2, wRe K hRe sRe, wRo K hRo sRo] (As := [.int (1 : Int32)]) (rest := []) ⟨hx, hb, hml, hown, hts⟩ (c_X10_refuse l D K F hMn rMn0 (hRo 99) rMn3 rMn4 rMn5 rMn6 rMn7 (hRe 99) rMn9 rMn10 H.size sMn (1 : Int32) o5 go5) (cwV 1 hts (gcV_X10_refuse (mB7 _ (List.mem_of_getElem? (i := 18) rfl))) rfl rfl rfl hdV_X10_refuse ⟨Nat.le_of_ble_eq_true rfl, Nat.le_of_ble_eq_true rfl⟩) hK hP hD hS hA [0] (fl3 _ _ _) rfl (by decide) (fl1 _) (fl1 _) rfl rfl (fl3 _ _ _) (va_recv hK hP (ci := 9) (q0 := 0) rfl (rwl (rwl o_Mn))) rfl hl.1 rfl (Nat.le_of_ble_eq_true rfl) dX10_fits_12 ⟨Nat.zero_le _, Nat.zero_le _⟩ (fun H locs hP hD hS => ?_)
      have hP : va_P D vwCl (wMn K hMn rMn0 (hRo 99) rMn3 rMn4 rMn5 rMn6 rMn7 (hRe 99) rMn9 rMn10 o5.2 ++ wRe K hRe sRe ++ wRo K hRo sRo) H := hP
      have hD : va_D A (wMn K hMn rMn0 (hRo 99) rMn3 rMn4 rMn5 rMn6 rMn7 (hRe 99) rMn9 rMn10 o5.2 ++ wRe K hRe sRe ++ wRo K hRo sRo) := hD
      have e9 := Option.some.inj hf
      rw [hQ]
      exact W.iret (v := o5.1) hx hb hr (fun t ht hW => ⟨⟨o5.1, (o5.2, sRe), rfl, ⟨pr1 e9, pr2 e9⟩, ⟨by rw [ht]; exact hP, va_K.moved hW.alike hK, hD⟩⟩, hS.F ht⟩) hS.2.2 dX10_fits_15
  rw [hHe] at hgo
  exact hgo

def wz_X10_fit : List Cond := .code yX10_fit cX10_fit 3 (some .int) :: wsL_law
abbrev r_X10_fit : Room := { frames := 26, cells := 0, slots := 0, locals := 649 }
set_option maxHeartbeats 4000000 in
set_option maxRecDepth 100000 in
theorem c_X10_fit (l : Launch) (D : va_G) (K : Nat → ClassId) (F : Nat) (hMn : Nat → Nat) (rMn0 : Nat) (rMn3 : Nat) (rMn4 : Nat) (rMn5 : Nat) (rMn6 : Nat) (rMn7 : Nat) (rMn9 : Nat) (rMn10 : Nat) (hRe : Nat → Nat) (hRo : Nat → Nat) (sz : Nat) (sMn : MS) (sRe : MS) (sRo : MS) (p1 : Int32) (p2 : Int32) (res : Int32 × MS × MS) (hf : f_X10_fit F sRo p1 p2 sMn sRe = some res) : Met l yX10_fit wz_X10_fit r_X10_fit (va_Pc [.ref (hMn 99), .int p1, .int p2] (PW D K (wMn K hMn rMn0 (hRo 99) rMn3 rMn4 rMn5 rMn6 rMn7 (hRe 99) rMn9 rMn10 sMn ++ wRe K hRe sRe ++ wRo K hRo sRo) sz)) (va_Qi (fun r u => r = res.1 ∧ u = res.2) (fun u t => BW D K (va_A (wMn K hMn rMn0 (hRo 99) rMn3 rMn4 rMn5 rMn6 rMn7 (hRe 99) rMn9 rMn10 sMn ++ wRe K hRe sRe ++ wRo K hRo sRo) sz) (wMn K hMn rMn0 (hRo 99) rMn3 rMn4 rMn5 rMn6 rMn7 (hRe 99) rMn9 rMn10 u.1 ++ wRe K hRe u.2 ++ wRo K hRo sRo) t) (va_A (wMn K hMn rMn0 (hRo 99) rMn3 rMn4 rMn5 rMn6 rMn7 (hRe 99) rMn9 rMn10 sMn ++ wRe K hRe sRe ++ wRo K hRo sRo) sz)) 0 0 (va_A (wMn K hMn rMn0 (hRo 99) rMn3 rMn4 rMn5 rMn6 rMn7 (hRe 99) rMn9 rMn10 sMn ++ wRe K hRe sRe ++ wRo K hRo sRo) sz) := by
  refine Met.ofW (cc := cX10_fit) (maxL := 3) (ret := (some .int)) (by decide) rfl ?_
  intro p e s m args below meth c s₁ B hml hv
  obtain ⟨hargs, hsz, hP, hK, hD0⟩ := hv
  have hx := B.exec
  have hb := B.bytes
  have hr := B.returns
  have hts := atoms_spec (ws := wz_X10_fit) B.pre
  have htl : ∀ w ∈ wsL_law, w.before args s = true := fun w h => hts w (List.mem_cons_of_mem _ h)
  have hown : s.vm.findClass RX10 = some m.cls := findClass_of_methodNamed B.named
  have hlocks := B.notSynchronized
  subst hsz
  have hD := hD0.self (sz := s.heap.size)
  generalize hAe : va_A (wMn K hMn rMn0 (hRo 99) rMn3 rMn4 rMn5 rMn6 rMn7 (hRe 99) rMn9 rMn10 sMn ++ wRe K hRe sRe ++ wRo K hRo sRo) s.heap.size = A at hD ⊢
  have hA : ∀ q : Nat, s.heap.size ≤ q → A q := fun q h => by rw [← hAe]; exact Or.inr h
  have hS : va_S A s.heap s.heap [] := va_S.rf
  have iX10 : ∀ w ∈ wsX100, w ∈ wz_X10_fit := fun w h => List.mem_cons_of_mem _ (inlX10 w h)
  have iX8 : ∀ w ∈ wsX80, w ∈ wz_X10_fit := fun w h => List.mem_cons_of_mem _ (inlX8 w h)
  suffices hgo : ∀ Q : State → Prop, Q = MQ below (va_Qi (fun r u => r = res.1 ∧ u = res.2) (fun u t => BW D K A (wMn K hMn rMn0 (hRo 99) rMn3 rMn4 rMn5 rMn6 rMn7 (hRe 99) rMn9 rMn10 u.1 ++ wRe K hRe u.2 ++ wRo K hRo sRo) t) A) args s 0 0 A → W p l e (headSpec wz_X10_fit r_X10_fit).room s m args below meth c s.heap [] 0 0 Q (entryFrame m args 3) from hgo _ rfl
  intro Q hQ
  have w14 : ∀ (sMn : MS), ∀ (sRe : MS), ∀ (H : Heap) (locs : List Loc) (ls : Array Slot), f_X10_fit_14 F sRo p1 p2 sMn sRe = some res → va_P D vwCl (wMn K hMn rMn0 (hRo 99) rMn3 rMn4 rMn5 rMn6 rMn7 (hRe 99) rMn9 rMn10 sMn ++ wRe K hRe sRe ++ wRo K hRo sRo) H → va_D A (wMn K hMn rMn0 (hRo 99) rMn3 rMn4 rMn5 rMn6 rMn7 (hRe 99) rMn9 rMn10 sMn ++ wRe K hRe sRe ++ wRo K hRo sRo) → va_S A s.heap H locs → lv_has ls 3 [(0, .ref (hMn 99))] → W p l e (headSpec wz_X10_fit r_X10_fit).room s m args below meth c H locs 0 0 Q (F0 m 14 ls []) := by
    intro sMn sRe H locs ls hf hP hD hS hl
    unfold f_X10_fit_14 at hf
    refine lv_aload_n hx hb dX10_fit_14 rfl (lv_at hl 0 rfl) ?_
    refine lv_iconst (v := (1 : Int32)) hx hb dX10_fit_15 (by decide) ?_
    obtain ⟨o11, go11, hf⟩ := bd_s hf
    refine rk_Vi (wn := wMn K hMn rMn0 (hRo 99) rMn3 rMn4 rMn5 rMn6 rMn7 (hRe 99) rMn9 rMn10 o11.2 ++ wRe K hRe sRe ++ wRo K hRo sRo) [wMn K hMn rMn0 (hRo 99) rMn3 rMn4 rMn5 rMn6 rMn7 (hRe 99) rMn9 rMn10 sMn, wRe K hRe sRe, wRo K hRo sRo] [wMn K hMn rMn0 (hRo 99) rMn3 rMn4 rMn5 rMn6 rMn7 (hRe 99) rMn9 rMn10 sMn] [wMn K hMn rMn0 (hRo 99) rMn3 rMn4 rMn5 rMn6 rMn7 (hRe 99) rMn9 rMn10 o11.2] [wMn K hMn rMn0 (hRo 99) rMn3 rMn4 rMn5 rMn6 rMn7 (hRe 99) rMn9 rMn10 o11.2, wRe K hRe sRe, wRo K hRo sRo] (As := [.int (1 : Int32)]) (rest := []) ⟨hx, hb, hml, hown, hts⟩ (c_X10_refuse l D K F hMn rMn0 (hRo 99) rMn3 rMn4 rMn5 rMn6 rMn7 (hRe 99) rMn9 rMn10 H.size sMn (1 : Int32) o11 go11) (cwV 1 hts (gcV_X10_refuse (mB7 _ (List.mem_of_getElem? (i := 18) rfl))) rfl rfl rfl hdV_X10_refuse ⟨Nat.le_of_ble_eq_true rfl, Nat.le_of_ble_eq_true rfl⟩) hK hP hD hS hA [0] (fl3 _ _ _) rfl (by decide) (fl1 _) (fl1 _) rfl rfl (fl3 _ _ _) (va_recv hK hP (ci := 9) (q0 := 0) rfl (rwl (rwl o_Mn))) rfl hl.1 rfl (Nat.le_of_ble_eq_true rfl) dX10_fit_16 ⟨Nat.zero_le _, Nat.zero_le _⟩ (fun H locs hP hD hS => ?_)
    have hP : va_P D vwCl (wMn K hMn rMn0 (hRo 99) rMn3 rMn4 rMn5 rMn6 rMn7 (hRe 99) rMn9 rMn10 o11.2 ++ wRe K hRe sRe ++ wRo K hRo sRo) H := hP
    have hD : va_D A (wMn K hMn rMn0 (hRo 99) rMn3 rMn4 rMn5 rMn6 rMn7 (hRe 99) rMn9 rMn10 o11.2 ++ wRe K hRe sRe ++ wRo K hRo sRo) := hD
    have e9 := Option.some.inj hf
    rw [hQ]
    exact W.iret (v := o11.1) hx hb hr (fun t ht hW => ⟨⟨o11.1, (o11.2, sRe), rfl, ⟨pr1 e9, pr2 e9⟩, ⟨by rw [ht]; exact hP, va_K.moved hW.alike hK, hD⟩⟩, hS.F ht⟩) hS.2.2 dX10_fit_19
  have w58 : ∀ (sMn : MS), ∀ (sRe : MS), ∀ (H : Heap) (locs : List Loc) (ls : Array Slot), f_X10_fit_58 F sRo p1 p2 sMn sRe = some res → va_P D vwCl (wMn K hMn rMn0 (hRo 99) rMn3 rMn4 rMn5 rMn6 rMn7 (hRe 99) rMn9 rMn10 sMn ++ wRe K hRe sRe ++ wRo K hRo sRo) H → va_D A (wMn K hMn rMn0 (hRo 99) rMn3 rMn4 rMn5 rMn6 rMn7 (hRe 99) rMn9 rMn10 sMn ++ wRe K hRe sRe ++ wRo K hRo sRo) → va_S A s.heap H locs → lv_has ls 3 [(0, .ref (hMn 99))] → W p l e (headSpec wz_X10_fit r_X10_fit).room s m args below meth c H locs 0 0 Q (F0 m 58 ls []) := by
    intro sMn sRe H locs ls hf hP hD hS hl
    unfold f_X10_fit_58 at hf
    refine lv_aload_n hx hb dX10_fit_58 rfl (lv_at hl 0 rfl) ?_
    refine lv_iconst (v := (1 : Int32)) hx hb dX10_fit_59 (by decide) ?_
    obtain ⟨o10, go10, hf⟩ := bd_s hf
    refine rk_Vi (wn := wMn K hMn rMn0 (hRo 99) rMn3 rMn4 rMn5 rMn6 rMn7 (hRe 99) rMn9 rMn10 o10.2 ++ wRe K hRe sRe ++ wRo K hRo sRo) [wMn K hMn rMn0 (hRo 99) rMn3 rMn4 rMn5 rMn6 rMn7 (hRe 99) rMn9 rMn10 sMn, wRe K hRe sRe, wRo K hRo sRo] [wMn K hMn rMn0 (hRo 99) rMn3 rMn4 rMn5 rMn6 rMn7 (hRe 99) rMn9 rMn10 sMn] [wMn K hMn rMn0 (hRo 99) rMn3 rMn4 rMn5 rMn6 rMn7 (hRe 99) rMn9 rMn10 o10.2] [wMn K hMn rMn0 (hRo 99) rMn3 rMn4 rMn5 rMn6 rMn7 (hRe 99) rMn9 rMn10 o10.2, wRe K hRe sRe, wRo K hRo sRo] (As := [.int (1 : Int32)]) (rest := []) ⟨hx, hb, hml, hown, hts⟩ (c_X10_refuse l D K F hMn rMn0 (hRo 99) rMn3 rMn4 rMn5 rMn6 rMn7 (hRe 99) rMn9 rMn10 H.size sMn (1 : Int32) o10 go10) (cwV 1 hts (gcV_X10_refuse (mB7 _ (List.mem_of_getElem? (i := 18) rfl))) rfl rfl rfl hdV_X10_refuse ⟨Nat.le_of_ble_eq_true rfl, Nat.le_of_ble_eq_true rfl⟩) hK hP hD hS hA [0] (fl3 _ _ _) rfl (by decide) (fl1 _) (fl1 _) rfl rfl (fl3 _ _ _) (va_recv hK hP (ci := 9) (q0 := 0) rfl (rwl (rwl o_Mn))) rfl hl.1 rfl (Nat.le_of_ble_eq_true rfl) dX10_fit_60 ⟨Nat.zero_le _, Nat.zero_le _⟩ (fun H locs hP hD hS => ?_)
    have hP : va_P D vwCl (wMn K hMn rMn0 (hRo 99) rMn3 rMn4 rMn5 rMn6 rMn7 (hRe 99) rMn9 rMn10 o10.2 ++ wRe K hRe sRe ++ wRo K hRo sRo) H := hP
    have hD : va_D A (wMn K hMn rMn0 (hRo 99) rMn3 rMn4 rMn5 rMn6 rMn7 (hRe 99) rMn9 rMn10 o10.2 ++ wRe K hRe sRe ++ wRo K hRo sRo) := hD
    have e9 := Option.some.inj hf
    rw [hQ]
    exact W.iret (v := o10.1) hx hb hr (fun t ht hW => ⟨⟨o10.1, (o10.2, sRe), rfl, ⟨pr1 e9, pr2 e9⟩, ⟨by rw [ht]; exact hP, va_K.moved hW.alike hK, hD⟩⟩, hS.F ht⟩) hS.2.2 dX10_fit_63
  have hen : entryFrame m args 3 = entryFrame m (([.ref (hMn 99), .int p1, .int p2] : List Value).toArray) 3 := by rw [hargs]
  have hl := lv_entry ([.ref (hMn 99), .int p1, .int p2]) (n := 3) (Nat.le_of_ble_eq_true rfl)
  rw [hen, lg_entry_eq]
  generalize (lg_sl ([.ref (hMn 99), .int p1, .int p2]) ++ List.replicate (3 - (lg_sl ([.ref (hMn 99), .int p1, .int p2])).length) Slot.unset).toArray = ls at hl ⊢
  have hl : lv_has ls 3 [(0, .ref (hMn 99)), (1, .int p1), (2, .int p2)] := hl
  unfold f_X10_fit at hf
  obtain ⟨H, hHe⟩ : ∃ z, z = s.heap := ⟨_, rfl⟩
  obtain ⟨locs, hLe⟩ : ∃ z : List Loc, z = [] := ⟨_, rfl⟩
  rw [← hLe]
  have hS : va_S A s.heap H locs := by rw [hHe, hLe]; exact hS
  have hP : va_P D vwCl (wMn K hMn rMn0 (hRo 99) rMn3 rMn4 rMn5 rMn6 rMn7 (hRe 99) rMn9 rMn10 sMn ++ wRe K hRe sRe ++ wRo K hRo sRo) H := by rw [hHe]; exact hP
  have hgo : W p l e (headSpec wz_X10_fit r_X10_fit).room s m args below meth c H locs 0 0 Q (F0 m 0 ls []) := by
    refine lv_aload_n hx hb dX10_fit_0 rfl (lv_at hl 0 rfl) ?_
    refine va_get (D := D) (ci := 9) (v := .ref (hRo 99)) (C := RX10) (T := TX10) (N := 14) hx hb hts iX10 hown hK hP 0 (rwl (rwl o_Mn)) rfl 2 (by decide) (htl _ (mB1 _ (List.mem_of_getElem? (i := 18) rfl))) (fun _ h9 => h9) rfl dX10_fit_1 ?_
    obtain ⟨o1, go1, hf⟩ := bd_s hf
    refine ro_Vi (As := []) (rest := []) ⟨hx, hb, hml, hown, hts⟩ (c_X9_isTold l D K F hRo sRo o1 go1) (cwV 0 hts (gcV_X9_isTold (mB30 _ (List.mem_of_getElem? (i := 0) rfl))) rfl rfl rfl hdV_X9_isTold ⟨Nat.le_of_ble_eq_true rfl, Nat.le_of_ble_eq_true rfl⟩) hK hP hS (va_PL (cs := [wMn K hMn rMn0 (hRo 99) rMn3 rMn4 rMn5 rMn6 rMn7 (hRe 99) rMn9 rMn10 sMn, wRe K hRe sRe, wRo K hRo sRo]) (cc := [wRo K hRo sRo]) hP (fl3 _ _ _) [2] rfl (fl1 _)) (va_recv hK hP (ci := 8) (q0 := ((1 + 3) + 0)) rfl (rwr (lnA ln_Mn ln_Re) o_Ro)) rfl hl.1 rfl (Nat.le_of_ble_eq_true rfl) dX10_fit_4 ⟨Nat.zero_le _, Nat.zero_le _⟩ (fun H locs hP hS => ?_)
    refine lv_if_eq (tgt := 14) hx hb dX10_fit_7 (by decide) (fun c2 => ?_) (fun c2 => ?_)
    · have hf := it_t hf c2
      exact w14 sMn sRe H locs ls hf hP hD hS (lv_sub hl [0] rfl)
    · have hf := it_f hf c2
      refine lv_iload_n hx hb dX10_fit_10 rfl (lv_at hl 1 rfl) ?_
      refine lv_if_ge (tgt := 20) hx hb dX10_fit_11 (by decide) (fun c3 => ?_) (fun c3 => ?_)
      · have hf := it_t hf c3
        refine lv_aload_n hx hb dX10_fit_20 rfl (lv_at hl 0 rfl) ?_
        refine va_get (D := D) (ci := 9) (v := .ref (hRe 99)) (C := RX10) (T := TX10) (N := 14) hx hb hts iX10 hown hK hP 0 (rwl (rwl o_Mn)) rfl 8 (by decide) (htl _ (mB2 _ (List.mem_of_getElem? (i := 15) rfl))) (fun _ h9 => h9) rfl dX10_fit_21 ?_
        refine lv_aload_n hx hb dX10_fit_24 rfl (lv_at hl 0 rfl) ?_
        refine va_get (D := D) (ci := 9) (v := .ref (hRo 99)) (C := RX10) (T := TX10) (N := 14) hx hb hts iX10 hown hK hP 0 (rwl (rwl o_Mn)) rfl 2 (by decide) (htl _ (mB1 _ (List.mem_of_getElem? (i := 18) rfl))) (fun _ h9 => h9) rfl dX10_fit_25 ?_
        refine lv_iload_n hx hb dX10_fit_28 rfl (lv_at hl 1 rfl) ?_
        obtain ⟨o4, go4, hf⟩ := bd_s hf
        refine rk_Vv (wn := wMn K hMn rMn0 (hRo 99) rMn3 rMn4 rMn5 rMn6 rMn7 (hRe 99) rMn9 rMn10 sMn ++ wRe K hRe o4 ++ wRo K hRo sRo) [wMn K hMn rMn0 (hRo 99) rMn3 rMn4 rMn5 rMn6 rMn7 (hRe 99) rMn9 rMn10 sMn, wRe K hRe sRe, wRo K hRo sRo] [wRe K hRe sRe, wRo K hRo sRo] [wRe K hRe o4, wRo K hRo sRo] [wMn K hMn rMn0 (hRo 99) rMn3 rMn4 rMn5 rMn6 rMn7 (hRe 99) rMn9 rMn10 sMn, wRe K hRe o4, wRo K hRo sRo] (As := [.ref (hRo 99), .int p1]) (rest := []) ⟨hx, hb, hml, hown, hts⟩ (c_X8_search l D K F hRe hRo H.size sRe sRo p1 o4 go4) (cwV 2 hts (gcV_X8_search (mB55 _ (List.mem_of_getElem? (i := 4) rfl))) rfl rfl rfl hdV_X8_search ⟨Nat.le_of_ble_eq_true rfl, Nat.le_of_ble_eq_true rfl⟩) hK hP hD hS hA [1, 2] (fl3 _ _ _) rfl (by decide) (fl2 _ _) (fl2 _ _) rfl rfl (fl3 _ _ _) (va_recv hK hP (ci := 7) (q0 := (1 + 0)) rfl (rwl (rwr ln_Mn o_Re))) rfl hl.1 rfl (Nat.le_of_ble_eq_true rfl) dX10_fit_29 ⟨Nat.zero_le _, Nat.zero_le _⟩ (fun H locs hP hD hS => ?_)
        have hP : va_P D vwCl (wMn K hMn rMn0 (hRo 99) rMn3 rMn4 rMn5 rMn6 rMn7 (hRe 99) rMn9 rMn10 sMn ++ wRe K hRe o4 ++ wRo K hRo sRo) H := hP
        have hD : va_D A (wMn K hMn rMn0 (hRo 99) rMn3 rMn4 rMn5 rMn6 rMn7 (hRe 99) rMn9 rMn10 sMn ++ wRe K hRe o4 ++ wRo K hRo sRo) := hD
        refine lv_iload_n hx hb dX10_fit_32 rfl (lv_at hl 1 rfl) ?_
        refine lv_aload_n hx hb dX10_fit_33 rfl (lv_at hl 0 rfl) ?_
        refine va_get (D := D) (ci := 9) (v := .ref (hRe 99)) (C := RX10) (T := TX10) (N := 14) hx hb hts iX10 hown hK hP 0 (rwl (rwl o_Mn)) rfl 8 (by decide) (htl _ (mB2 _ (List.mem_of_getElem? (i := 15) rfl))) (fun _ h9 => h9) rfl dX10_fit_34 ?_
        refine va_get (D := D) (ci := 7) (v := .int (o4.1 0)) (C := RX8) (T := TX8) (N := 8) hx hb hts iX8 hown hK hP (1 + 0) (rwl (rwr ln_Mn o_Re)) rfl 0 (by decide) (htl _ (mB55 _ (List.mem_of_getElem? (i := 3) rfl))) (fun _ h9 => h9) rfl dX10_fit_37 ?_
        refine lv_icmp_ge (tgt := 58) hx hb dX10_fit_40 (by decide) (fun c5 => ?_) (fun c5 => ?_)
        · have hf := it_t hf c5
          exact w58 sMn o4 H locs ls hf hP hD hS (lv_sub hl [0] rfl)
        · have hf := it_f hf c5
          refine lv_iload_n hx hb dX10_fit_43 rfl (lv_at hl 2 rfl) ?_
          refine lv_if_lt (tgt := 58) hx hb dX10_fit_44 (by decide) (fun c6 => ?_) (fun c6 => ?_)
          · have hf := it_t hf c6
            exact w58 sMn o4 H locs ls hf hP hD hS (lv_sub hl [0] rfl)
          · have hf := it_f hf c6
            refine lv_iload_n hx hb dX10_fit_47 rfl (lv_at hl 2 rfl) ?_
            refine lv_aload_n hx hb dX10_fit_48 rfl (lv_at hl 0 rfl) ?_
            refine va_get (D := D) (ci := 9) (v := .ref (hRe 99)) (C := RX10) (T := TX10) (N := 14) hx hb hts iX10 hown hK hP 0 (rwl (rwl o_Mn)) rfl 8 (by decide) (htl _ (mB2 _ (List.mem_of_getElem? (i := 15) rfl))) (fun _ h9 => h9) rfl dX10_fit_49 ?_
            refine va_get (D := D) (ci := 7) (v := .int (o4.1 5)) (C := RX8) (T := TX8) (N := 8) hx hb hts iX8 hown hK hP (1 + 0) (rwl (rwr ln_Mn o_Re)) rfl 5 (by decide) (htl _ (mB58 _ (List.mem_of_getElem? (i := 8) rfl))) (fun _ h9 => h9) rfl dX10_fit_52 ?_
            refine lv_icmp_lt (tgt := 64) hx hb dX10_fit_55 (by decide) (fun c7 => ?_) (fun c7 => ?_)
            · have hf := it_t hf c7
              refine lv_aload_n hx hb dX10_fit_64 rfl (lv_at hl 0 rfl) ?_
              refine lv_aload_n hx hb dX10_fit_65 rfl (lv_at hl 0 rfl) ?_
              refine va_get (D := D) (ci := 9) (v := .ref (hRe 99)) (C := RX10) (T := TX10) (N := 14) hx hb hts iX10 hown hK hP 0 (rwl (rwl o_Mn)) rfl 8 (by decide) (htl _ (mB2 _ (List.mem_of_getElem? (i := 15) rfl))) (fun _ h9 => h9) rfl dX10_fit_66 ?_
              refine va_get (D := D) (ci := 7) (v := .ref (hRe 4)) (C := RX8) (T := TX8) (N := 8) hx hb hts iX8 hown hK hP (1 + 0) (rwl (rwr ln_Mn o_Re)) rfl 4 (by decide) (htl _ (mB58 _ (List.mem_of_getElem? (i := 9) rfl))) (fun _ h9 => h9) rfl dX10_fit_69 ?_
              refine lv_iload_n hx hb dX10_fit_72 rfl (lv_at hl 2 rfl) ?_
              obtain ⟨g8, hf⟩ := gd_s hf
              refine va_iald hx hb hK hP (1 + 1) 0 (f := o4.2.2.1 4) (rwl (rwr ln_Mn a_Re_4)) rfl (vpb_in g8) dX10_fit_73 ?_
              obtain ⟨o9, go9, hf⟩ := bd_s hf
              refine rk_Vi (wn := wMn K hMn rMn0 (hRo 99) rMn3 rMn4 rMn5 rMn6 rMn7 (hRe 99) rMn9 rMn10 o9.2 ++ wRe K hRe o4 ++ wRo K hRo sRo) [wMn K hMn rMn0 (hRo 99) rMn3 rMn4 rMn5 rMn6 rMn7 (hRe 99) rMn9 rMn10 sMn, wRe K hRe o4, wRo K hRo sRo] [wMn K hMn rMn0 (hRo 99) rMn3 rMn4 rMn5 rMn6 rMn7 (hRe 99) rMn9 rMn10 sMn] [wMn K hMn rMn0 (hRo 99) rMn3 rMn4 rMn5 rMn6 rMn7 (hRe 99) rMn9 rMn10 o9.2] [wMn K hMn rMn0 (hRo 99) rMn3 rMn4 rMn5 rMn6 rMn7 (hRe 99) rMn9 rMn10 o9.2, wRe K hRe o4, wRo K hRo sRo] (As := [.int (o4.2.2.1 4 p2.toNatClampNeg)]) (rest := []) ⟨hx, hb, hml, hown, hts⟩ (c_X10_accept l D K F hMn rMn0 (hRo 99) rMn3 rMn4 rMn5 rMn6 rMn7 (hRe 99) rMn9 rMn10 H.size sMn (o4.2.2.1 4 p2.toNatClampNeg) o9 go9) (cwV 1 hts (gcV_X10_accept (mB17 _ (List.mem_of_getElem? (i := 14) rfl))) rfl rfl rfl hdV_X10_accept ⟨Nat.le_of_ble_eq_true rfl, Nat.le_of_ble_eq_true rfl⟩) hK hP hD hS hA [0] (fl3 _ _ _) rfl (by decide) (fl1 _) (fl1 _) rfl rfl (fl3 _ _ _) (va_recv hK hP (ci := 9) (q0 := 0) rfl (rwl (rwl o_Mn))) rfl hl.1 rfl (Nat.le_of_ble_eq_true rfl) dX10_fit_74 ⟨Nat.zero_le _, Nat.zero_le _⟩ (fun H locs hP hD hS => ?_)
              have hP : va_P D vwCl (wMn K hMn rMn0 (hRo 99) rMn3 rMn4 rMn5 rMn6 rMn7 (hRe 99) rMn9 rMn10 o9.2 ++ wRe K hRe o4 ++ wRo K hRo sRo) H := hP
              have hD : va_D A (wMn K hMn rMn0 (hRo 99) rMn3 rMn4 rMn5 rMn6 rMn7 (hRe 99) rMn9 rMn10 o9.2 ++ wRe K hRe o4 ++ wRo K hRo sRo) := hD
              have e9 := Option.some.inj hf
              rw [hQ]
              exact W.iret (v := o9.1) hx hb hr (fun t ht hW => ⟨⟨o9.1, (o9.2, o4), rfl, ⟨pr1 e9, pr2 e9⟩, ⟨by rw [ht]; exact hP, va_K.moved hW.alike hK, hD⟩⟩, hS.F ht⟩) hS.2.2 dX10_fit_77
            · have hf := it_f hf c7
              exact w58 sMn o4 H locs ls hf hP hD hS (lv_sub hl [0] rfl)
      · have hf := it_f hf c3
        exact w14 sMn sRe H locs ls hf hP hD hS (lv_sub hl [0] rfl)
  rw [hHe] at hgo
  exact hgo

def wz_X10_went : List Cond := .code yX10_went cX10_went 2 (some .int) :: wsL_law
abbrev r_X10_went : Room := { frames := 26, cells := 0, slots := 0, locals := 649 }
set_option maxHeartbeats 4000000 in
set_option maxRecDepth 100000 in
theorem c_X10_went (l : Launch) (D : va_G) (K : Nat → ClassId) (F : Nat) (hMn : Nat → Nat) (rMn0 : Nat) (rMn3 : Nat) (rMn4 : Nat) (rMn5 : Nat) (rMn6 : Nat) (rMn7 : Nat) (rMn9 : Nat) (rMn10 : Nat) (hRe : Nat → Nat) (hRo : Nat → Nat) (sz : Nat) (sMn : MS) (sRe : MS) (sRo : MS) (p1 : Int32) (res : Int32 × MS × MS) (hf : f_X10_went F sRo p1 sMn sRe = some res) : Met l yX10_went wz_X10_went r_X10_went (va_Pc [.ref (hMn 99), .int p1] (PW D K (wMn K hMn rMn0 (hRo 99) rMn3 rMn4 rMn5 rMn6 rMn7 (hRe 99) rMn9 rMn10 sMn ++ wRe K hRe sRe ++ wRo K hRo sRo) sz)) (va_Qi (fun r u => r = res.1 ∧ u = res.2) (fun u t => BW D K (va_A (wMn K hMn rMn0 (hRo 99) rMn3 rMn4 rMn5 rMn6 rMn7 (hRe 99) rMn9 rMn10 sMn ++ wRe K hRe sRe ++ wRo K hRo sRo) sz) (wMn K hMn rMn0 (hRo 99) rMn3 rMn4 rMn5 rMn6 rMn7 (hRe 99) rMn9 rMn10 u.1 ++ wRe K hRe u.2 ++ wRo K hRo sRo) t) (va_A (wMn K hMn rMn0 (hRo 99) rMn3 rMn4 rMn5 rMn6 rMn7 (hRe 99) rMn9 rMn10 sMn ++ wRe K hRe sRe ++ wRo K hRo sRo) sz)) 0 0 (va_A (wMn K hMn rMn0 (hRo 99) rMn3 rMn4 rMn5 rMn6 rMn7 (hRe 99) rMn9 rMn10 sMn ++ wRe K hRe sRe ++ wRo K hRo sRo) sz) := by
  refine Met.ofW (cc := cX10_went) (maxL := 2) (ret := (some .int)) (by decide) rfl ?_
  intro p e s m args below meth c s₁ B hml hv
  obtain ⟨hargs, hsz, hP, hK, hD0⟩ := hv
  have hx := B.exec
  have hb := B.bytes
  have hr := B.returns
  have hts := atoms_spec (ws := wz_X10_went) B.pre
  have htl : ∀ w ∈ wsL_law, w.before args s = true := fun w h => hts w (List.mem_cons_of_mem _ h)
  have hown : s.vm.findClass RX10 = some m.cls := findClass_of_methodNamed B.named
  have hlocks := B.notSynchronized
  subst hsz
  have hD := hD0.self (sz := s.heap.size)
  generalize hAe : va_A (wMn K hMn rMn0 (hRo 99) rMn3 rMn4 rMn5 rMn6 rMn7 (hRe 99) rMn9 rMn10 sMn ++ wRe K hRe sRe ++ wRo K hRo sRo) s.heap.size = A at hD ⊢
  have hA : ∀ q : Nat, s.heap.size ≤ q → A q := fun q h => by rw [← hAe]; exact Or.inr h
  have hS : va_S A s.heap s.heap [] := va_S.rf
  have iX10 : ∀ w ∈ wsX100, w ∈ wz_X10_went := fun w h => List.mem_cons_of_mem _ (inlX10 w h)
  have iX8 : ∀ w ∈ wsX80, w ∈ wz_X10_went := fun w h => List.mem_cons_of_mem _ (inlX8 w h)
  suffices hgo : ∀ Q : State → Prop, Q = MQ below (va_Qi (fun r u => r = res.1 ∧ u = res.2) (fun u t => BW D K A (wMn K hMn rMn0 (hRo 99) rMn3 rMn4 rMn5 rMn6 rMn7 (hRe 99) rMn9 rMn10 u.1 ++ wRe K hRe u.2 ++ wRo K hRo sRo) t) A) args s 0 0 A → W p l e (headSpec wz_X10_went r_X10_went).room s m args below meth c s.heap [] 0 0 Q (entryFrame m args 2) from hgo _ rfl
  intro Q hQ
  have w50 : ∀ (y1 : Int32), ∀ (sMn : MS), ∀ (sRe : MS), ∀ (H : Heap) (locs : List Loc) (ls : Array Slot), f_X10_went_50 F sRo p1 y1 sMn sRe = some res → va_P D vwCl (wMn K hMn rMn0 (hRo 99) rMn3 rMn4 rMn5 rMn6 rMn7 (hRe 99) rMn9 rMn10 sMn ++ wRe K hRe sRe ++ wRo K hRo sRo) H → va_D A (wMn K hMn rMn0 (hRo 99) rMn3 rMn4 rMn5 rMn6 rMn7 (hRe 99) rMn9 rMn10 sMn ++ wRe K hRe sRe ++ wRo K hRo sRo) → va_S A s.heap H locs → lv_has ls 2 [] → W p l e (headSpec wz_X10_went r_X10_went).room s m args below meth c H locs 0 0 Q (F0 m 50 ls [.int y1, .ref (hMn 99)]) := by
    intro y1 sMn sRe H locs ls hf hP hD hS hl
    unfold f_X10_went_50 at hf
    obtain ⟨o6, go6, hf⟩ := bd_s hf
    refine rk_Vi (wn := wMn K hMn rMn0 (hRo 99) rMn3 rMn4 rMn5 rMn6 rMn7 (hRe 99) rMn9 rMn10 o6.2 ++ wRe K hRe sRe ++ wRo K hRo sRo) [wMn K hMn rMn0 (hRo 99) rMn3 rMn4 rMn5 rMn6 rMn7 (hRe 99) rMn9 rMn10 sMn, wRe K hRe sRe, wRo K hRo sRo] [wMn K hMn rMn0 (hRo 99) rMn3 rMn4 rMn5 rMn6 rMn7 (hRe 99) rMn9 rMn10 sMn] [wMn K hMn rMn0 (hRo 99) rMn3 rMn4 rMn5 rMn6 rMn7 (hRe 99) rMn9 rMn10 o6.2] [wMn K hMn rMn0 (hRo 99) rMn3 rMn4 rMn5 rMn6 rMn7 (hRe 99) rMn9 rMn10 o6.2, wRe K hRe sRe, wRo K hRo sRo] (As := [.int y1]) (rest := []) ⟨hx, hb, hml, hown, hts⟩ (c_X10_accept l D K F hMn rMn0 (hRo 99) rMn3 rMn4 rMn5 rMn6 rMn7 (hRe 99) rMn9 rMn10 H.size sMn y1 o6 go6) (cwV 1 hts (gcV_X10_accept (mB17 _ (List.mem_of_getElem? (i := 14) rfl))) rfl rfl rfl hdV_X10_accept ⟨Nat.le_of_ble_eq_true rfl, Nat.le_of_ble_eq_true rfl⟩) hK hP hD hS hA [0] (fl3 _ _ _) rfl (by decide) (fl1 _) (fl1 _) rfl rfl (fl3 _ _ _) (va_recv hK hP (ci := 9) (q0 := 0) rfl (rwl (rwl o_Mn))) rfl hl.1 rfl (Nat.le_of_ble_eq_true rfl) dX10_went_50 ⟨Nat.zero_le _, Nat.zero_le _⟩ (fun H locs hP hD hS => ?_)
    have hP : va_P D vwCl (wMn K hMn rMn0 (hRo 99) rMn3 rMn4 rMn5 rMn6 rMn7 (hRe 99) rMn9 rMn10 o6.2 ++ wRe K hRe sRe ++ wRo K hRo sRo) H := hP
    have hD : va_D A (wMn K hMn rMn0 (hRo 99) rMn3 rMn4 rMn5 rMn6 rMn7 (hRe 99) rMn9 rMn10 o6.2 ++ wRe K hRe sRe ++ wRo K hRo sRo) := hD
    have e9 := Option.some.inj hf
    rw [hQ]
    exact W.iret (v := o6.1) hx hb hr (fun t ht hW => ⟨⟨o6.1, (o6.2, sRe), rfl, ⟨pr1 e9, pr2 e9⟩, ⟨by rw [ht]; exact hP, va_K.moved hW.alike hK, hD⟩⟩, hS.F ht⟩) hS.2.2 dX10_went_53
  have hen : entryFrame m args 2 = entryFrame m (([.ref (hMn 99), .int p1] : List Value).toArray) 2 := by rw [hargs]
  have hl := lv_entry ([.ref (hMn 99), .int p1]) (n := 2) (Nat.le_of_ble_eq_true rfl)
  rw [hen, lg_entry_eq]
  generalize (lg_sl ([.ref (hMn 99), .int p1]) ++ List.replicate (2 - (lg_sl ([.ref (hMn 99), .int p1])).length) Slot.unset).toArray = ls at hl ⊢
  have hl : lv_has ls 2 [(0, .ref (hMn 99)), (1, .int p1)] := hl
  unfold f_X10_went at hf
  obtain ⟨H, hHe⟩ : ∃ z, z = s.heap := ⟨_, rfl⟩
  obtain ⟨locs, hLe⟩ : ∃ z : List Loc, z = [] := ⟨_, rfl⟩
  rw [← hLe]
  have hS : va_S A s.heap H locs := by rw [hHe, hLe]; exact hS
  have hP : va_P D vwCl (wMn K hMn rMn0 (hRo 99) rMn3 rMn4 rMn5 rMn6 rMn7 (hRe 99) rMn9 rMn10 sMn ++ wRe K hRe sRe ++ wRo K hRo sRo) H := by rw [hHe]; exact hP
  have hgo : W p l e (headSpec wz_X10_went r_X10_went).room s m args below meth c H locs 0 0 Q (F0 m 0 ls []) := by
    refine lv_aload_n hx hb dX10_went_0 rfl (lv_at hl 0 rfl) ?_
    refine va_get (D := D) (ci := 9) (v := .ref (hRo 99)) (C := RX10) (T := TX10) (N := 14) hx hb hts iX10 hown hK hP 0 (rwl (rwl o_Mn)) rfl 2 (by decide) (htl _ (mB1 _ (List.mem_of_getElem? (i := 18) rfl))) (fun _ h9 => h9) rfl dX10_went_1 ?_
    obtain ⟨o1, go1, hf⟩ := bd_s hf
    refine ro_Vi (As := []) (rest := []) ⟨hx, hb, hml, hown, hts⟩ (c_X9_isTold l D K F hRo sRo o1 go1) (cwV 0 hts (gcV_X9_isTold (mB30 _ (List.mem_of_getElem? (i := 0) rfl))) rfl rfl rfl hdV_X9_isTold ⟨Nat.le_of_ble_eq_true rfl, Nat.le_of_ble_eq_true rfl⟩) hK hP hS (va_PL (cs := [wMn K hMn rMn0 (hRo 99) rMn3 rMn4 rMn5 rMn6 rMn7 (hRe 99) rMn9 rMn10 sMn, wRe K hRe sRe, wRo K hRo sRo]) (cc := [wRo K hRo sRo]) hP (fl3 _ _ _) [2] rfl (fl1 _)) (va_recv hK hP (ci := 8) (q0 := ((1 + 3) + 0)) rfl (rwr (lnA ln_Mn ln_Re) o_Ro)) rfl hl.1 rfl (Nat.le_of_ble_eq_true rfl) dX10_went_4 ⟨Nat.zero_le _, Nat.zero_le _⟩ (fun H locs hP hS => ?_)
    refine lv_if_ne (tgt := 16) hx hb dX10_went_7 (by decide) (fun c2 => ?_) (fun c2 => ?_)
    · have hf := it_f hf c2
      refine lv_aload_n hx hb dX10_went_16 rfl (lv_at hl 0 rfl) ?_
      refine va_get (D := D) (ci := 9) (v := .ref (hRe 99)) (C := RX10) (T := TX10) (N := 14) hx hb hts iX10 hown hK hP 0 (rwl (rwl o_Mn)) rfl 8 (by decide) (htl _ (mB2 _ (List.mem_of_getElem? (i := 15) rfl))) (fun _ h9 => h9) rfl dX10_went_17 ?_
      refine lv_aload_n hx hb dX10_went_20 rfl (lv_at hl 0 rfl) ?_
      refine va_get (D := D) (ci := 9) (v := .ref (hRo 99)) (C := RX10) (T := TX10) (N := 14) hx hb hts iX10 hown hK hP 0 (rwl (rwl o_Mn)) rfl 2 (by decide) (htl _ (mB1 _ (List.mem_of_getElem? (i := 18) rfl))) (fun _ h9 => h9) rfl dX10_went_21 ?_
      refine lv_iconst (v := (-1 : Int32)) hx hb dX10_went_24 (by decide) ?_
      obtain ⟨o3, go3, hf⟩ := bd_s hf
      refine rk_Vv (wn := wMn K hMn rMn0 (hRo 99) rMn3 rMn4 rMn5 rMn6 rMn7 (hRe 99) rMn9 rMn10 sMn ++ wRe K hRe o3 ++ wRo K hRo sRo) [wMn K hMn rMn0 (hRo 99) rMn3 rMn4 rMn5 rMn6 rMn7 (hRe 99) rMn9 rMn10 sMn, wRe K hRe sRe, wRo K hRo sRo] [wRe K hRe sRe, wRo K hRo sRo] [wRe K hRe o3, wRo K hRo sRo] [wMn K hMn rMn0 (hRo 99) rMn3 rMn4 rMn5 rMn6 rMn7 (hRe 99) rMn9 rMn10 sMn, wRe K hRe o3, wRo K hRo sRo] (As := [.ref (hRo 99), .int (-1 : Int32)]) (rest := []) ⟨hx, hb, hml, hown, hts⟩ (c_X8_search l D K F hRe hRo H.size sRe sRo (-1 : Int32) o3 go3) (cwV 2 hts (gcV_X8_search (mB55 _ (List.mem_of_getElem? (i := 4) rfl))) rfl rfl rfl hdV_X8_search ⟨Nat.le_of_ble_eq_true rfl, Nat.le_of_ble_eq_true rfl⟩) hK hP hD hS hA [1, 2] (fl3 _ _ _) rfl (by decide) (fl2 _ _) (fl2 _ _) rfl rfl (fl3 _ _ _) (va_recv hK hP (ci := 7) (q0 := (1 + 0)) rfl (rwl (rwr ln_Mn o_Re))) rfl hl.1 rfl (Nat.le_of_ble_eq_true rfl) dX10_went_25 ⟨Nat.zero_le _, Nat.zero_le _⟩ (fun H locs hP hD hS => ?_)
      have hP : va_P D vwCl (wMn K hMn rMn0 (hRo 99) rMn3 rMn4 rMn5 rMn6 rMn7 (hRe 99) rMn9 rMn10 sMn ++ wRe K hRe o3 ++ wRo K hRo sRo) H := hP
      have hD : va_D A (wMn K hMn rMn0 (hRo 99) rMn3 rMn4 rMn5 rMn6 rMn7 (hRe 99) rMn9 rMn10 sMn ++ wRe K hRe o3 ++ wRo K hRo sRo) := hD
      refine lv_aload_n hx hb dX10_went_28 rfl (lv_at hl 0 rfl) ?_
      refine lv_iload_n hx hb dX10_went_29 rfl (lv_at hl 1 rfl) ?_
      refine lv_if_eq (tgt := 43) hx hb dX10_went_30 (by decide) (fun c4 => ?_) (fun c4 => ?_)
      · have hf := it_t hf c4
        refine lv_aload_n hx hb dX10_went_43 rfl (lv_at hl 0 rfl) ?_
        refine va_get (D := D) (ci := 9) (v := .ref (hRe 99)) (C := RX10) (T := TX10) (N := 14) hx hb hts iX10 hown hK hP 0 (rwl (rwl o_Mn)) rfl 8 (by decide) (htl _ (mB2 _ (List.mem_of_getElem? (i := 15) rfl))) (fun _ h9 => h9) rfl dX10_went_44 ?_
        refine va_get (D := D) (ci := 7) (v := .int (o3.1 1)) (C := RX8) (T := TX8) (N := 8) hx hb hts iX8 hown hK hP (1 + 0) (rwl (rwr ln_Mn o_Re)) rfl 1 (by decide) (htl _ (mB58 _ (List.mem_of_getElem? (i := 19) rfl))) (fun _ h9 => h9) rfl dX10_went_47 ?_
        exact w50 (o3.1 1) sMn o3 H locs ls hf hP hD hS (lv_sub hl [] rfl)
      · have hf := it_f hf c4
        refine lv_aload_n hx hb dX10_went_33 rfl (lv_at hl 0 rfl) ?_
        refine va_get (D := D) (ci := 9) (v := .ref (hRe 99)) (C := RX10) (T := TX10) (N := 14) hx hb hts iX10 hown hK hP 0 (rwl (rwl o_Mn)) rfl 8 (by decide) (htl _ (mB2 _ (List.mem_of_getElem? (i := 15) rfl))) (fun _ h9 => h9) rfl dX10_went_34 ?_
        refine va_get (D := D) (ci := 7) (v := .int (o3.1 2)) (C := RX8) (T := TX8) (N := 8) hx hb hts iX8 hown hK hP (1 + 0) (rwl (rwr ln_Mn o_Re)) rfl 2 (by decide) (htl _ (mB58 _ (List.mem_of_getElem? (i := 18) rfl))) (fun _ h9 => h9) rfl dX10_went_37 ?_
        refine lv_goto (tgt := 50) hx hb dX10_went_40 (by decide) ?_
        exact w50 (o3.1 2) sMn o3 H locs ls hf hP hD hS (lv_sub hl [] rfl)
    · have hf := it_t hf c2
      refine lv_aload_n hx hb dX10_went_10 rfl (lv_at hl 0 rfl) ?_
      refine lv_iconst (v := (1 : Int32)) hx hb dX10_went_11 (by decide) ?_
      obtain ⟨o5, go5, hf⟩ := bd_s hf
      refine rk_Vi (wn := wMn K hMn rMn0 (hRo 99) rMn3 rMn4 rMn5 rMn6 rMn7 (hRe 99) rMn9 rMn10 o5.2 ++ wRe K hRe sRe ++ wRo K hRo sRo) [wMn K hMn rMn0 (hRo 99) rMn3 rMn4 rMn5 rMn6 rMn7 (hRe 99) rMn9 rMn10 sMn, wRe K hRe sRe, wRo K hRo sRo] [wMn K hMn rMn0 (hRo 99) rMn3 rMn4 rMn5 rMn6 rMn7 (hRe 99) rMn9 rMn10 sMn] [wMn K hMn rMn0 (hRo 99) rMn3 rMn4 rMn5 rMn6 rMn7 (hRe 99) rMn9 rMn10 o5.2] [wMn K hMn rMn0 (hRo 99) rMn3 rMn4 rMn5 rMn6 rMn7 (hRe 99) rMn9 rMn10 o5.2, wRe K hRe sRe, wRo K hRo sRo] (As := [.int (1 : Int32)]) (rest := []) ⟨hx, hb, hml, hown, hts⟩ (c_X10_refuse l D K F hMn rMn0 (hRo 99) rMn3 rMn4 rMn5 rMn6 rMn7 (hRe 99) rMn9 rMn10 H.size sMn (1 : Int32) o5 go5) (cwV 1 hts (gcV_X10_refuse (mB7 _ (List.mem_of_getElem? (i := 18) rfl))) rfl rfl rfl hdV_X10_refuse ⟨Nat.le_of_ble_eq_true rfl, Nat.le_of_ble_eq_true rfl⟩) hK hP hD hS hA [0] (fl3 _ _ _) rfl (by decide) (fl1 _) (fl1 _) rfl rfl (fl3 _ _ _) (va_recv hK hP (ci := 9) (q0 := 0) rfl (rwl (rwl o_Mn))) rfl hl.1 rfl (Nat.le_of_ble_eq_true rfl) dX10_went_12 ⟨Nat.zero_le _, Nat.zero_le _⟩ (fun H locs hP hD hS => ?_)
      have hP : va_P D vwCl (wMn K hMn rMn0 (hRo 99) rMn3 rMn4 rMn5 rMn6 rMn7 (hRe 99) rMn9 rMn10 o5.2 ++ wRe K hRe sRe ++ wRo K hRo sRo) H := hP
      have hD : va_D A (wMn K hMn rMn0 (hRo 99) rMn3 rMn4 rMn5 rMn6 rMn7 (hRe 99) rMn9 rMn10 o5.2 ++ wRe K hRe sRe ++ wRo K hRo sRo) := hD
      have e9 := Option.some.inj hf
      rw [hQ]
      exact W.iret (v := o5.1) hx hb hr (fun t ht hW => ⟨⟨o5.1, (o5.2, sRe), rfl, ⟨pr1 e9, pr2 e9⟩, ⟨by rw [ht]; exact hP, va_K.moved hW.alike hK, hD⟩⟩, hS.F ht⟩) hS.2.2 dX10_went_15
  rw [hHe] at hgo
  exact hgo

theorem gcS_J13_numberOfTrailingZeros_95d88 {T0 : Cond} {own : String} {i : Nat} (h : Cond.methodLink own i yJ13_numberOfTrailingZeros_95d88 ∈ wsL_law) : GoodIn (T0 :: wsL_law) (va_wsS own i yJ13_numberOfTrailingZeros_95d88 wz_J13_numberOfTrailingZeros_95d88) := gS h (mB59 _ (List.mem_of_getElem? (i := 15) rfl)) (mB59 _ (List.mem_of_getElem? (i := 7) rfl)) (mB59 _ (List.mem_of_getElem? (i := 16) rfl))
theorem hdS_J13_numberOfTrailingZeros_95d88 : yJ13_numberOfTrailingZeros_95d88.cls ≠ "java/lang/invoke/MethodHandle" ∧ yJ13_numberOfTrailingZeros_95d88.cls ≠ "java/lang/invoke/VarHandle" ∧ (parseMethodDescriptor yJ13_numberOfTrailingZeros_95d88.desc).map (fun d => d.parameters.length) = some 1 := by decide +kernel
theorem gcS_J13_numberOfLeadingZeros_95d88 {T0 : Cond} {own : String} {i : Nat} (h : Cond.methodLink own i yJ13_numberOfLeadingZeros_95d88 ∈ wsL_law) : GoodIn (T0 :: wsL_law) (va_wsS own i yJ13_numberOfLeadingZeros_95d88 wz_J13_numberOfLeadingZeros_95d88) := gS h (mB59 _ (List.mem_of_getElem? (i := 6) rfl)) (mB59 _ (List.mem_of_getElem? (i := 7) rfl)) (mB59 _ (List.mem_of_getElem? (i := 8) rfl))
theorem hdS_J13_numberOfLeadingZeros_95d88 : yJ13_numberOfLeadingZeros_95d88.cls ≠ "java/lang/invoke/MethodHandle" ∧ yJ13_numberOfLeadingZeros_95d88.cls ≠ "java/lang/invoke/VarHandle" ∧ (parseMethodDescriptor yJ13_numberOfLeadingZeros_95d88.desc).map (fun d => d.parameters.length) = some 1 := by decide +kernel
def wz_X10_needle : List Cond := .code yX10_needle cX10_needle 4 (some .int) :: wsL_law
abbrev r_X10_needle : Room := { frames := 26, cells := 0, slots := 0, locals := 649 }
set_option maxHeartbeats 4000000 in
set_option maxRecDepth 100000 in
theorem c_X10_needle (l : Launch) (D : va_G) (K : Nat → ClassId) (F : Nat) (hMn : Nat → Nat) (rMn0 : Nat) (rMn3 : Nat) (rMn4 : Nat) (rMn5 : Nat) (rMn6 : Nat) (rMn7 : Nat) (rMn9 : Nat) (rMn10 : Nat) (hRe : Nat → Nat) (hRo : Nat → Nat) (sz : Nat) (sMn : MS) (sRe : MS) (sRo : MS) (p1 : Int32) (res : Int32 × MS × MS) (hf : f_X10_needle F sRo p1 sMn sRe = some res) : Met l yX10_needle wz_X10_needle r_X10_needle (va_Pc [.ref (hMn 99), .int p1] (PW D K (wMn K hMn rMn0 (hRo 99) rMn3 rMn4 rMn5 rMn6 rMn7 (hRe 99) rMn9 rMn10 sMn ++ wRe K hRe sRe ++ wRo K hRo sRo) sz)) (va_Qi (fun r u => r = res.1 ∧ u = res.2) (fun u t => BW D K (va_A (wMn K hMn rMn0 (hRo 99) rMn3 rMn4 rMn5 rMn6 rMn7 (hRe 99) rMn9 rMn10 sMn ++ wRe K hRe sRe ++ wRo K hRo sRo) sz) (wMn K hMn rMn0 (hRo 99) rMn3 rMn4 rMn5 rMn6 rMn7 (hRe 99) rMn9 rMn10 u.1 ++ wRe K hRe u.2 ++ wRo K hRo sRo) t) (va_A (wMn K hMn rMn0 (hRo 99) rMn3 rMn4 rMn5 rMn6 rMn7 (hRe 99) rMn9 rMn10 sMn ++ wRe K hRe sRe ++ wRo K hRo sRo) sz)) 0 0 (va_A (wMn K hMn rMn0 (hRo 99) rMn3 rMn4 rMn5 rMn6 rMn7 (hRe 99) rMn9 rMn10 sMn ++ wRe K hRe sRe ++ wRo K hRo sRo) sz) := by
  refine Met.ofW (cc := cX10_needle) (maxL := 4) (ret := (some .int)) (by decide) rfl ?_
  intro p e s m args below meth c s₁ B hml hv
  obtain ⟨hargs, hsz, hP, hK, hD0⟩ := hv
  have hx := B.exec
  have hb := B.bytes
  have hr := B.returns
  have hts := atoms_spec (ws := wz_X10_needle) B.pre
  have htl : ∀ w ∈ wsL_law, w.before args s = true := fun w h => hts w (List.mem_cons_of_mem _ h)
  have hown : s.vm.findClass RX10 = some m.cls := findClass_of_methodNamed B.named
  have hlocks := B.notSynchronized
  subst hsz
  have hD := hD0.self (sz := s.heap.size)
  generalize hAe : va_A (wMn K hMn rMn0 (hRo 99) rMn3 rMn4 rMn5 rMn6 rMn7 (hRe 99) rMn9 rMn10 sMn ++ wRe K hRe sRe ++ wRo K hRo sRo) s.heap.size = A at hD ⊢
  have hA : ∀ q : Nat, s.heap.size ≤ q → A q := fun q h => by rw [← hAe]; exact Or.inr h
  have hS : va_S A s.heap s.heap [] := va_S.rf
  have iX10 : ∀ w ∈ wsX100, w ∈ wz_X10_needle := fun w h => List.mem_cons_of_mem _ (inlX10 w h)
  have iX8 : ∀ w ∈ wsX80, w ∈ wz_X10_needle := fun w h => List.mem_cons_of_mem _ (inlX8 w h)
  suffices hgo : ∀ Q : State → Prop, Q = MQ below (va_Qi (fun r u => r = res.1 ∧ u = res.2) (fun u t => BW D K A (wMn K hMn rMn0 (hRo 99) rMn3 rMn4 rMn5 rMn6 rMn7 (hRe 99) rMn9 rMn10 u.1 ++ wRe K hRe u.2 ++ wRo K hRo sRo) t) A) args s 0 0 A → W p l e (headSpec wz_X10_needle r_X10_needle).room s m args below meth c s.heap [] 0 0 Q (entryFrame m args 4) from hgo _ rfl
  intro Q hQ
  have w68 : ∀ (y1 : Int32), ∀ (sMn : MS), ∀ (sRe : MS), ∀ (H : Heap) (locs : List Loc) (ls : Array Slot), f_X10_needle_68 F sRo p1 y1 sMn sRe = some res → va_P D vwCl (wMn K hMn rMn0 (hRo 99) rMn3 rMn4 rMn5 rMn6 rMn7 (hRe 99) rMn9 rMn10 sMn ++ wRe K hRe sRe ++ wRo K hRo sRo) H → va_D A (wMn K hMn rMn0 (hRo 99) rMn3 rMn4 rMn5 rMn6 rMn7 (hRe 99) rMn9 rMn10 sMn ++ wRe K hRe sRe ++ wRo K hRo sRo) → va_S A s.heap H locs → lv_has ls 4 [] → W p l e (headSpec wz_X10_needle r_X10_needle).room s m args below meth c H locs 0 0 Q (F0 m 68 ls [.int y1, .ref (hMn 99)]) := by
    intro y1 sMn sRe H locs ls hf hP hD hS hl
    unfold f_X10_needle_68 at hf
    obtain ⟨o10, go10, hf⟩ := bd_s hf
    refine rk_Vi (wn := wMn K hMn rMn0 (hRo 99) rMn3 rMn4 rMn5 rMn6 rMn7 (hRe 99) rMn9 rMn10 o10.2 ++ wRe K hRe sRe ++ wRo K hRo sRo) [wMn K hMn rMn0 (hRo 99) rMn3 rMn4 rMn5 rMn6 rMn7 (hRe 99) rMn9 rMn10 sMn, wRe K hRe sRe, wRo K hRo sRo] [wMn K hMn rMn0 (hRo 99) rMn3 rMn4 rMn5 rMn6 rMn7 (hRe 99) rMn9 rMn10 sMn] [wMn K hMn rMn0 (hRo 99) rMn3 rMn4 rMn5 rMn6 rMn7 (hRe 99) rMn9 rMn10 o10.2] [wMn K hMn rMn0 (hRo 99) rMn3 rMn4 rMn5 rMn6 rMn7 (hRe 99) rMn9 rMn10 o10.2, wRe K hRe sRe, wRo K hRo sRo] (As := [.int y1]) (rest := []) ⟨hx, hb, hml, hown, hts⟩ (c_X10_accept l D K F hMn rMn0 (hRo 99) rMn3 rMn4 rMn5 rMn6 rMn7 (hRe 99) rMn9 rMn10 H.size sMn y1 o10 go10) (cwV 1 hts (gcV_X10_accept (mB17 _ (List.mem_of_getElem? (i := 14) rfl))) rfl rfl rfl hdV_X10_accept ⟨Nat.le_of_ble_eq_true rfl, Nat.le_of_ble_eq_true rfl⟩) hK hP hD hS hA [0] (fl3 _ _ _) rfl (by decide) (fl1 _) (fl1 _) rfl rfl (fl3 _ _ _) (va_recv hK hP (ci := 9) (q0 := 0) rfl (rwl (rwl o_Mn))) rfl hl.1 rfl (Nat.le_of_ble_eq_true rfl) dX10_needle_68 ⟨Nat.zero_le _, Nat.zero_le _⟩ (fun H locs hP hD hS => ?_)
    have hP : va_P D vwCl (wMn K hMn rMn0 (hRo 99) rMn3 rMn4 rMn5 rMn6 rMn7 (hRe 99) rMn9 rMn10 o10.2 ++ wRe K hRe sRe ++ wRo K hRo sRo) H := hP
    have hD : va_D A (wMn K hMn rMn0 (hRo 99) rMn3 rMn4 rMn5 rMn6 rMn7 (hRe 99) rMn9 rMn10 o10.2 ++ wRe K hRe sRe ++ wRo K hRo sRo) := hD
    have e9 := Option.some.inj hf
    rw [hQ]
    exact W.iret (v := o10.1) hx hb hr (fun t ht hW => ⟨⟨o10.1, (o10.2, sRe), rfl, ⟨pr1 e9, pr2 e9⟩, ⟨by rw [ht]; exact hP, va_K.moved hW.alike hK, hD⟩⟩, hS.F ht⟩) hS.2.2 dX10_needle_71
  have hen : entryFrame m args 4 = entryFrame m (([.ref (hMn 99), .int p1] : List Value).toArray) 4 := by rw [hargs]
  have hl := lv_entry ([.ref (hMn 99), .int p1]) (n := 4) (Nat.le_of_ble_eq_true rfl)
  rw [hen, lg_entry_eq]
  generalize (lg_sl ([.ref (hMn 99), .int p1]) ++ List.replicate (4 - (lg_sl ([.ref (hMn 99), .int p1])).length) Slot.unset).toArray = ls at hl ⊢
  have hl : lv_has ls 4 [(0, .ref (hMn 99)), (1, .int p1)] := hl
  unfold f_X10_needle at hf
  obtain ⟨H, hHe⟩ : ∃ z, z = s.heap := ⟨_, rfl⟩
  obtain ⟨locs, hLe⟩ : ∃ z : List Loc, z = [] := ⟨_, rfl⟩
  rw [← hLe]
  have hS : va_S A s.heap H locs := by rw [hHe, hLe]; exact hS
  have hP : va_P D vwCl (wMn K hMn rMn0 (hRo 99) rMn3 rMn4 rMn5 rMn6 rMn7 (hRe 99) rMn9 rMn10 sMn ++ wRe K hRe sRe ++ wRo K hRo sRo) H := by rw [hHe]; exact hP
  have hgo : W p l e (headSpec wz_X10_needle r_X10_needle).room s m args below meth c H locs 0 0 Q (F0 m 0 ls []) := by
    refine lv_aload_n hx hb dX10_needle_0 rfl (lv_at hl 0 rfl) ?_
    refine va_get (D := D) (ci := 9) (v := .ref (hRo 99)) (C := RX10) (T := TX10) (N := 14) hx hb hts iX10 hown hK hP 0 (rwl (rwl o_Mn)) rfl 2 (by decide) (htl _ (mB1 _ (List.mem_of_getElem? (i := 18) rfl))) (fun _ h9 => h9) rfl dX10_needle_1 ?_
    obtain ⟨o1, go1, hf⟩ := bd_s hf
    refine ro_Vi (As := []) (rest := []) ⟨hx, hb, hml, hown, hts⟩ (c_X9_isTold l D K F hRo sRo o1 go1) (cwV 0 hts (gcV_X9_isTold (mB30 _ (List.mem_of_getElem? (i := 0) rfl))) rfl rfl rfl hdV_X9_isTold ⟨Nat.le_of_ble_eq_true rfl, Nat.le_of_ble_eq_true rfl⟩) hK hP hS (va_PL (cs := [wMn K hMn rMn0 (hRo 99) rMn3 rMn4 rMn5 rMn6 rMn7 (hRe 99) rMn9 rMn10 sMn, wRe K hRe sRe, wRo K hRo sRo]) (cc := [wRo K hRo sRo]) hP (fl3 _ _ _) [2] rfl (fl1 _)) (va_recv hK hP (ci := 8) (q0 := ((1 + 3) + 0)) rfl (rwr (lnA ln_Mn ln_Re) o_Ro)) rfl hl.1 rfl (Nat.le_of_ble_eq_true rfl) dX10_needle_4 ⟨Nat.zero_le _, Nat.zero_le _⟩ (fun H locs hP hS => ?_)
    refine lv_if_ne (tgt := 16) hx hb dX10_needle_7 (by decide) (fun c2 => ?_) (fun c2 => ?_)
    · have hf := it_f hf c2
      refine lv_aload_n hx hb dX10_needle_16 rfl (lv_at hl 0 rfl) ?_
      refine va_get (D := D) (ci := 9) (v := .ref (hRe 99)) (C := RX10) (T := TX10) (N := 14) hx hb hts iX10 hown hK hP 0 (rwl (rwl o_Mn)) rfl 8 (by decide) (htl _ (mB2 _ (List.mem_of_getElem? (i := 15) rfl))) (fun _ h9 => h9) rfl dX10_needle_17 ?_
      refine lv_aload_n hx hb dX10_needle_20 rfl (lv_at hl 0 rfl) ?_
      refine va_get (D := D) (ci := 9) (v := .ref (hRo 99)) (C := RX10) (T := TX10) (N := 14) hx hb hts iX10 hown hK hP 0 (rwl (rwl o_Mn)) rfl 2 (by decide) (htl _ (mB1 _ (List.mem_of_getElem? (i := 18) rfl))) (fun _ h9 => h9) rfl dX10_needle_21 ?_
      refine lv_iconst (v := (-1 : Int32)) hx hb dX10_needle_24 (by decide) ?_
      obtain ⟨o3, go3, hf⟩ := bd_s hf
      refine rk_Vv (wn := wMn K hMn rMn0 (hRo 99) rMn3 rMn4 rMn5 rMn6 rMn7 (hRe 99) rMn9 rMn10 sMn ++ wRe K hRe o3 ++ wRo K hRo sRo) [wMn K hMn rMn0 (hRo 99) rMn3 rMn4 rMn5 rMn6 rMn7 (hRe 99) rMn9 rMn10 sMn, wRe K hRe sRe, wRo K hRo sRo] [wRe K hRe sRe, wRo K hRo sRo] [wRe K hRe o3, wRo K hRo sRo] [wMn K hMn rMn0 (hRo 99) rMn3 rMn4 rMn5 rMn6 rMn7 (hRe 99) rMn9 rMn10 sMn, wRe K hRe o3, wRo K hRo sRo] (As := [.ref (hRo 99), .int (-1 : Int32)]) (rest := []) ⟨hx, hb, hml, hown, hts⟩ (c_X8_search l D K F hRe hRo H.size sRe sRo (-1 : Int32) o3 go3) (cwV 2 hts (gcV_X8_search (mB55 _ (List.mem_of_getElem? (i := 4) rfl))) rfl rfl rfl hdV_X8_search ⟨Nat.le_of_ble_eq_true rfl, Nat.le_of_ble_eq_true rfl⟩) hK hP hD hS hA [1, 2] (fl3 _ _ _) rfl (by decide) (fl2 _ _) (fl2 _ _) rfl rfl (fl3 _ _ _) (va_recv hK hP (ci := 7) (q0 := (1 + 0)) rfl (rwl (rwr ln_Mn o_Re))) rfl hl.1 rfl (Nat.le_of_ble_eq_true rfl) dX10_needle_25 ⟨Nat.zero_le _, Nat.zero_le _⟩ (fun H locs hP hD hS => ?_)
      have hP : va_P D vwCl (wMn K hMn rMn0 (hRo 99) rMn3 rMn4 rMn5 rMn6 rMn7 (hRe 99) rMn9 rMn10 sMn ++ wRe K hRe o3 ++ wRo K hRo sRo) H := hP
      have hD : va_D A (wMn K hMn rMn0 (hRo 99) rMn3 rMn4 rMn5 rMn6 rMn7 (hRe 99) rMn9 rMn10 sMn ++ wRe K hRe o3 ++ wRo K hRo sRo) := hD
      refine lv_aload_n hx hb dX10_needle_28 rfl (lv_at hl 0 rfl) ?_
      refine va_get (D := D) (ci := 9) (v := .ref (hRe 99)) (C := RX10) (T := TX10) (N := 14) hx hb hts iX10 hown hK hP 0 (rwl (rwl o_Mn)) rfl 8 (by decide) (htl _ (mB2 _ (List.mem_of_getElem? (i := 15) rfl))) (fun _ h9 => h9) rfl dX10_needle_29 ?_
      refine va_get (D := D) (ci := 7) (v := .long (o3.2.1 3)) (C := RX8) (T := TX8) (N := 8) hx hb hts iX8 hown hK hP (1 + 0) (rwl (rwr ln_Mn o_Re)) rfl 3 (by decide) (htl _ (mB59 _ (List.mem_of_getElem? (i := 4) rfl))) (fun _ h9 => h9) rfl dX10_needle_32 ?_
      refine lv_lstore_n (lv' := [(2, .long (o3.2.1 3)), (0, .ref (hMn 99)), (1, .int p1)]) hx hb dX10_needle_35 rfl hl (by decide) rfl (fun ls hl => ?_)
      refine lv_lload_n hx hb dX10_needle_36 rfl (lv_at hl 0 rfl) ?_
      refine lv_lconst (v := (0 : Int64)) hx hb dX10_needle_37 (by decide) ?_
      refine W.lcmp hx hb dX10_needle_38 ?_
      refine lv_if_ne (tgt := 49) hx hb dX10_needle_39 (by decide) (fun c4 => ?_) (fun c4 => ?_)
      · have hf := it_f hf c4
        refine lv_aload_n hx hb dX10_needle_49 rfl (lv_at hl 1 rfl) ?_
        refine lv_iload_n hx hb dX10_needle_50 rfl (lv_at hl 2 rfl) ?_
        refine lv_if_eq (tgt := 64) hx hb dX10_needle_51 (by decide) (fun c5 => ?_) (fun c5 => ?_)
        · have hf := it_t hf c5
          refine lv_lload_n hx hb dX10_needle_64 rfl (lv_at hl 0 rfl) ?_
          obtain ⟨o6, go6, hf⟩ := bd_s hf
          refine ro_Si (As := [.long (o3.2.1 3)]) (rest := [.ref (hMn 99)]) ⟨hx, hb, hml, hown, hts⟩ (c_J13_numberOfTrailingZeros_95d88 l D K F (o3.2.1 3) o6 go6) (va_cwS 1 hts (gcS_J13_numberOfTrailingZeros_95d88 (mB59 _ (List.mem_of_getElem? (i := 14) rfl))) rfl rfl rfl hdS_J13_numberOfTrailingZeros_95d88 ⟨Nat.le_of_ble_eq_true rfl, Nat.le_of_ble_eq_true rfl⟩) hK hP hS va_Pnil rfl hl.1 rfl (Nat.le_of_ble_eq_true rfl) dX10_needle_65 ⟨Nat.zero_le _, Nat.zero_le _⟩ (fun H locs hP hS => ?_)
          exact w68 o6 sMn o3 H locs ls hf hP hD hS (lv_sub hl [] rfl)
        · have hf := it_f hf c5
          refine lv_bipush (v := (63 : Int32)) hx hb dX10_needle_54 (by decide) ?_
          refine lv_lload_n hx hb dX10_needle_56 rfl (lv_at hl 0 rfl) ?_
          obtain ⟨o7, go7, hf⟩ := bd_s hf
          refine ro_Si (As := [.long (o3.2.1 3)]) (rest := [.int (63 : Int32), .ref (hMn 99)]) ⟨hx, hb, hml, hown, hts⟩ (c_J13_numberOfLeadingZeros_95d88 l D K F (o3.2.1 3) o7 go7) (va_cwS 1 hts (gcS_J13_numberOfLeadingZeros_95d88 (mB59 _ (List.mem_of_getElem? (i := 5) rfl))) rfl rfl rfl hdS_J13_numberOfLeadingZeros_95d88 ⟨Nat.le_of_ble_eq_true rfl, Nat.le_of_ble_eq_true rfl⟩) hK hP hS va_Pnil rfl hl.1 rfl (Nat.le_of_ble_eq_true rfl) dX10_needle_57 ⟨Nat.zero_le _, Nat.zero_le _⟩ (fun H locs hP hS => ?_)
          refine lv_isub hx hb dX10_needle_60 ?_
          refine lv_goto (tgt := 68) hx hb dX10_needle_61 (by decide) ?_
          exact w68 ((63 : Int32) - o7) sMn o3 H locs ls hf hP hD hS (lv_sub hl [] rfl)
      · have hf := it_t hf c4
        refine lv_aload_n hx hb dX10_needle_42 rfl (lv_at hl 1 rfl) ?_
        refine lv_bipush (v := (-2 : Int32)) hx hb dX10_needle_43 (by decide) ?_
        obtain ⟨o8, go8, hf⟩ := bd_s hf
        refine rk_Vi (wn := wMn K hMn rMn0 (hRo 99) rMn3 rMn4 rMn5 rMn6 rMn7 (hRe 99) rMn9 rMn10 o8.2 ++ wRe K hRe o3 ++ wRo K hRo sRo) [wMn K hMn rMn0 (hRo 99) rMn3 rMn4 rMn5 rMn6 rMn7 (hRe 99) rMn9 rMn10 sMn, wRe K hRe o3, wRo K hRo sRo] [wMn K hMn rMn0 (hRo 99) rMn3 rMn4 rMn5 rMn6 rMn7 (hRe 99) rMn9 rMn10 sMn] [wMn K hMn rMn0 (hRo 99) rMn3 rMn4 rMn5 rMn6 rMn7 (hRe 99) rMn9 rMn10 o8.2] [wMn K hMn rMn0 (hRo 99) rMn3 rMn4 rMn5 rMn6 rMn7 (hRe 99) rMn9 rMn10 o8.2, wRe K hRe o3, wRo K hRo sRo] (As := [.int (-2 : Int32)]) (rest := []) ⟨hx, hb, hml, hown, hts⟩ (c_X10_accept l D K F hMn rMn0 (hRo 99) rMn3 rMn4 rMn5 rMn6 rMn7 (hRe 99) rMn9 rMn10 H.size sMn (-2 : Int32) o8 go8) (cwV 1 hts (gcV_X10_accept (mB17 _ (List.mem_of_getElem? (i := 14) rfl))) rfl rfl rfl hdV_X10_accept ⟨Nat.le_of_ble_eq_true rfl, Nat.le_of_ble_eq_true rfl⟩) hK hP hD hS hA [0] (fl3 _ _ _) rfl (by decide) (fl1 _) (fl1 _) rfl rfl (fl3 _ _ _) (va_recv hK hP (ci := 9) (q0 := 0) rfl (rwl (rwl o_Mn))) rfl hl.1 rfl (Nat.le_of_ble_eq_true rfl) dX10_needle_45 ⟨Nat.zero_le _, Nat.zero_le _⟩ (fun H locs hP hD hS => ?_)
        have hP : va_P D vwCl (wMn K hMn rMn0 (hRo 99) rMn3 rMn4 rMn5 rMn6 rMn7 (hRe 99) rMn9 rMn10 o8.2 ++ wRe K hRe o3 ++ wRo K hRo sRo) H := hP
        have hD : va_D A (wMn K hMn rMn0 (hRo 99) rMn3 rMn4 rMn5 rMn6 rMn7 (hRe 99) rMn9 rMn10 o8.2 ++ wRe K hRe o3 ++ wRo K hRo sRo) := hD
        have e9 := Option.some.inj hf
        rw [hQ]
        exact W.iret (v := o8.1) hx hb hr (fun t ht hW => ⟨⟨o8.1, (o8.2, o3), rfl, ⟨pr1 e9, pr2 e9⟩, ⟨by rw [ht]; exact hP, va_K.moved hW.alike hK, hD⟩⟩, hS.F ht⟩) hS.2.2 dX10_needle_48
    · have hf := it_t hf c2
      refine lv_aload_n hx hb dX10_needle_10 rfl (lv_at hl 0 rfl) ?_
      refine lv_iconst (v := (1 : Int32)) hx hb dX10_needle_11 (by decide) ?_
      obtain ⟨o9, go9, hf⟩ := bd_s hf
      refine rk_Vi (wn := wMn K hMn rMn0 (hRo 99) rMn3 rMn4 rMn5 rMn6 rMn7 (hRe 99) rMn9 rMn10 o9.2 ++ wRe K hRe sRe ++ wRo K hRo sRo) [wMn K hMn rMn0 (hRo 99) rMn3 rMn4 rMn5 rMn6 rMn7 (hRe 99) rMn9 rMn10 sMn, wRe K hRe sRe, wRo K hRo sRo] [wMn K hMn rMn0 (hRo 99) rMn3 rMn4 rMn5 rMn6 rMn7 (hRe 99) rMn9 rMn10 sMn] [wMn K hMn rMn0 (hRo 99) rMn3 rMn4 rMn5 rMn6 rMn7 (hRe 99) rMn9 rMn10 o9.2] [wMn K hMn rMn0 (hRo 99) rMn3 rMn4 rMn5 rMn6 rMn7 (hRe 99) rMn9 rMn10 o9.2, wRe K hRe sRe, wRo K hRo sRo] (As := [.int (1 : Int32)]) (rest := []) ⟨hx, hb, hml, hown, hts⟩ (c_X10_refuse l D K F hMn rMn0 (hRo 99) rMn3 rMn4 rMn5 rMn6 rMn7 (hRe 99) rMn9 rMn10 H.size sMn (1 : Int32) o9 go9) (cwV 1 hts (gcV_X10_refuse (mB7 _ (List.mem_of_getElem? (i := 18) rfl))) rfl rfl rfl hdV_X10_refuse ⟨Nat.le_of_ble_eq_true rfl, Nat.le_of_ble_eq_true rfl⟩) hK hP hD hS hA [0] (fl3 _ _ _) rfl (by decide) (fl1 _) (fl1 _) rfl rfl (fl3 _ _ _) (va_recv hK hP (ci := 9) (q0 := 0) rfl (rwl (rwl o_Mn))) rfl hl.1 rfl (Nat.le_of_ble_eq_true rfl) dX10_needle_12 ⟨Nat.zero_le _, Nat.zero_le _⟩ (fun H locs hP hD hS => ?_)
      have hP : va_P D vwCl (wMn K hMn rMn0 (hRo 99) rMn3 rMn4 rMn5 rMn6 rMn7 (hRe 99) rMn9 rMn10 o9.2 ++ wRe K hRe sRe ++ wRo K hRo sRo) H := hP
      have hD : va_D A (wMn K hMn rMn0 (hRo 99) rMn3 rMn4 rMn5 rMn6 rMn7 (hRe 99) rMn9 rMn10 o9.2 ++ wRe K hRe sRe ++ wRo K hRo sRo) := hD
      have e9 := Option.some.inj hf
      rw [hQ]
      exact W.iret (v := o9.1) hx hb hr (fun t ht hW => ⟨⟨o9.1, (o9.2, sRe), rfl, ⟨pr1 e9, pr2 e9⟩, ⟨by rw [ht]; exact hP, va_K.moved hW.alike hK, hD⟩⟩, hS.F ht⟩) hS.2.2 dX10_needle_15
  rw [hHe] at hgo
  exact hgo

def wz_X10_isSeed : List Cond := .code yX10_isSeed cX10_isSeed 1 (some .boolean) :: wsL_law
abbrev r_X10_isSeed : Room := { frames := 0, cells := 0, slots := 0, locals := 0 }
set_option maxHeartbeats 4000000 in
set_option maxRecDepth 100000 in
theorem c_X10_isSeed (l : Launch) (D : va_G) (K : Nat → ClassId) (F : Nat) (p0 : Int32) (res : Int32) (hf : f_X10_isSeed F p0 = some res) : Met l yX10_isSeed wz_X10_isSeed r_X10_isSeed (va_Pc [.int p0] (PR D K (([] : va_W)))) (va_Qi (fun r (_ : Unit) => r = res) BN nOne) 0 0 nOne := by
  refine Met.ofW (cc := cX10_isSeed) (maxL := 1) (ret := (some .boolean)) (by decide) rfl ?_
  intro p e s m args below meth c s₁ B hml hv
  obtain ⟨hargs, hP, hK⟩ := hv
  have hx := B.exec
  have hb := B.bytes
  have hr := B.returns
  have hts := atoms_spec (ws := wz_X10_isSeed) B.pre
  have htl : ∀ w ∈ wsL_law, w.before args s = true := fun w h => hts w (List.mem_cons_of_mem _ h)
  have hown : s.vm.findClass RX10 = some m.cls := findClass_of_methodNamed B.named
  have hlocks := B.notSynchronized
  have hS : va_S nOne s.heap s.heap [] := va_S.rf
  suffices hgo : ∀ Q : State → Prop, Q = MQ below (va_Qi (fun r (_ : Unit) => r = res) BN nOne) args s 0 0 nOne → W p l e (headSpec wz_X10_isSeed r_X10_isSeed).room s m args below meth c s.heap [] 0 0 Q (entryFrame m args 1) from hgo _ rfl
  intro Q hQ
  have hen : entryFrame m args 1 = entryFrame m (([.int p0] : List Value).toArray) 1 := by rw [hargs]
  have hl := lv_entry ([.int p0]) (n := 1) (Nat.le_of_ble_eq_true rfl)
  rw [hen, lg_entry_eq]
  generalize (lg_sl ([.int p0]) ++ List.replicate (1 - (lg_sl ([.int p0])).length) Slot.unset).toArray = ls at hl ⊢
  have hl : lv_has ls 1 [(0, .int p0)] := hl
  unfold f_X10_isSeed at hf
  obtain ⟨H, hHe⟩ : ∃ z, z = s.heap := ⟨_, rfl⟩
  obtain ⟨locs, hLe⟩ : ∃ z : List Loc, z = [] := ⟨_, rfl⟩
  rw [← hLe]
  have hS : va_S nOne s.heap H locs := by rw [hHe, hLe]; exact hS
  have hP : va_P D vwCl (([] : va_W)) H := by rw [hHe]; exact hP
  have hgo : W p l e (headSpec wz_X10_isSeed r_X10_isSeed).room s m args below meth c H locs 0 0 Q (F0 m 0 ls []) := by
    refine lv_iload_n hx hb dX10_isSeed_0 rfl (lv_at hl 0 rfl) ?_
    refine lv_if_lt (tgt := 15) hx hb dX10_isSeed_1 (by decide) (fun c1 => ?_) (fun c1 => ?_)
    · have hf := it_t hf c1
      refine lv_iconst (v := (0 : Int32)) hx hb dX10_isSeed_15 (by decide) ?_
      have e9 := Option.some.inj hf
      rw [hQ]
      exact W.zret (v := (0 : Int32)) hx hb hr rfl (fun t ht hW => ⟨⟨(0 : Int32), (), rfl, e9, trivial⟩, hS.F ht⟩) hS.2.2 dX10_isSeed_16
    · have hf := it_f hf c1
      refine lv_iload_n hx hb dX10_isSeed_4 rfl (lv_at hl 0 rfl) ?_
      refine lv_ldcw (v := (65537 : Int32)) hx hb hown (htl _ (mB60 _ (List.mem_of_getElem? (i := 11) rfl))) dX10_isSeed_5 ?_
      refine lv_icmp_ge (tgt := 15) hx hb dX10_isSeed_8 (by decide) (fun c2 => ?_) (fun c2 => ?_)
      · have hf := it_t hf c2
        refine lv_iconst (v := (0 : Int32)) hx hb dX10_isSeed_15 (by decide) ?_
        have e9 := Option.some.inj hf
        rw [hQ]
        exact W.zret (v := (0 : Int32)) hx hb hr rfl (fun t ht hW => ⟨⟨(0 : Int32), (), rfl, e9, trivial⟩, hS.F ht⟩) hS.2.2 dX10_isSeed_16
      · have hf := it_f hf c2
        refine lv_iconst (v := (1 : Int32)) hx hb dX10_isSeed_11 (by decide) ?_
        refine lv_goto (tgt := 16) hx hb dX10_isSeed_12 (by decide) ?_
        have e9 := Option.some.inj hf
        rw [hQ]
        exact W.zret (v := (1 : Int32)) hx hb hr rfl (fun t ht hW => ⟨⟨(1 : Int32), (), rfl, e9, trivial⟩, hS.F ht⟩) hS.2.2 dX10_isSeed_16
  rw [hHe] at hgo
  exact hgo

theorem gcS_X10_isSeed {T0 : Cond} {own : String} {i : Nat} (h : Cond.methodLink own i yX10_isSeed ∈ wsL_law) : GoodIn (T0 :: wsL_law) (va_wsS own i yX10_isSeed wz_X10_isSeed) := gS h (mB60 _ (List.mem_of_getElem? (i := 9) rfl)) (mB1 _ (List.mem_of_getElem? (i := 2) rfl)) (mB60 _ (List.mem_of_getElem? (i := 10) rfl))
theorem hdS_X10_isSeed : yX10_isSeed.cls ≠ "java/lang/invoke/MethodHandle" ∧ yX10_isSeed.cls ≠ "java/lang/invoke/VarHandle" ∧ (parseMethodDescriptor yX10_isSeed.desc).map (fun d => d.parameters.length) = some 1 := by decide +kernel
def wz_X10_whyNoRuns : List Cond := .code yX10_whyNoRuns cX10_whyNoRuns 4 (some .int) :: wsL_law
abbrev r_X10_whyNoRuns : Room := { frames := 2, cells := 0, slots := 0, locals := 41 }
set_option maxHeartbeats 4000000 in
set_option maxRecDepth 100000 in
theorem c_X10_whyNoRuns (l : Launch) (D : va_G) (K : Nat → ClassId) (F : Nat) (hMn : Nat → Nat) (rMn0 : Nat) (rMn3 : Nat) (rMn4 : Nat) (rMn5 : Nat) (rMn6 : Nat) (rMn7 : Nat) (rMn8 : Nat) (rMn9 : Nat) (rMn10 : Nat) (hRo : Nat → Nat) (sMn : MS) (sRo : MS) (p1 : Int32) (p2 : Int32) (p3 : Int32) (res : Int32) (hf : f_X10_whyNoRuns F sMn sRo p1 p2 p3 = some res) : Met l yX10_whyNoRuns wz_X10_whyNoRuns r_X10_whyNoRuns (va_Pc [.ref (hMn 99), .int p1, .int p2, .int p3] (PR D K (wMn K hMn rMn0 (hRo 99) rMn3 rMn4 rMn5 rMn6 rMn7 rMn8 rMn9 rMn10 sMn ++ wRo K hRo sRo))) (va_Qi (fun r (_ : Unit) => r = res) BN nOne) 0 0 nOne := by
  refine Met.ofW (cc := cX10_whyNoRuns) (maxL := 4) (ret := (some .int)) (by decide) rfl ?_
  intro p e s m args below meth c s₁ B hml hv
  obtain ⟨hargs, hP, hK⟩ := hv
  have hx := B.exec
  have hb := B.bytes
  have hr := B.returns
  have hts := atoms_spec (ws := wz_X10_whyNoRuns) B.pre
  have htl : ∀ w ∈ wsL_law, w.before args s = true := fun w h => hts w (List.mem_cons_of_mem _ h)
  have hown : s.vm.findClass RX10 = some m.cls := findClass_of_methodNamed B.named
  have hlocks := B.notSynchronized
  have hS : va_S nOne s.heap s.heap [] := va_S.rf
  suffices hgo : ∀ Q : State → Prop, Q = MQ below (va_Qi (fun r (_ : Unit) => r = res) BN nOne) args s 0 0 nOne → W p l e (headSpec wz_X10_whyNoRuns r_X10_whyNoRuns).room s m args below meth c s.heap [] 0 0 Q (entryFrame m args 4) from hgo _ rfl
  intro Q hQ
  have hen : entryFrame m args 4 = entryFrame m (([.ref (hMn 99), .int p1, .int p2, .int p3] : List Value).toArray) 4 := by rw [hargs]
  have hl := lv_entry ([.ref (hMn 99), .int p1, .int p2, .int p3]) (n := 4) (Nat.le_of_ble_eq_true rfl)
  rw [hen, lg_entry_eq]
  generalize (lg_sl ([.ref (hMn 99), .int p1, .int p2, .int p3]) ++ List.replicate (4 - (lg_sl ([.ref (hMn 99), .int p1, .int p2, .int p3])).length) Slot.unset).toArray = ls at hl ⊢
  have hl : lv_has ls 4 [(0, .ref (hMn 99)), (1, .int p1), (2, .int p2), (3, .int p3)] := hl
  unfold f_X10_whyNoRuns at hf
  obtain ⟨H, hHe⟩ : ∃ z, z = s.heap := ⟨_, rfl⟩
  obtain ⟨locs, hLe⟩ : ∃ z : List Loc, z = [] := ⟨_, rfl⟩
  rw [← hLe]
  have hS : va_S nOne s.heap H locs := by rw [hHe, hLe]; exact hS
  have hP : va_P D vwCl (wMn K hMn rMn0 (hRo 99) rMn3 rMn4 rMn5 rMn6 rMn7 rMn8 rMn9 rMn10 sMn ++ wRo K hRo sRo) H := by rw [hHe]; exact hP
  have hgo : W p l e (headSpec wz_X10_whyNoRuns r_X10_whyNoRuns).room s m args below meth c H locs 0 0 Q (F0 m 0 ls []) := by
    refine lv_aload_n hx hb dX10_whyNoRuns_0 rfl (lv_at hl 0 rfl) ?_
    refine lv_iload_n hx hb dX10_whyNoRuns_1 rfl (lv_at hl 1 rfl) ?_
    obtain ⟨o1, go1, hf⟩ := bd_s hf
    refine ro_Vi (As := [.int p1]) (rest := []) ⟨hx, hb, hml, hown, hts⟩ (c_X10_isRuleOfRoad l D K F hMn rMn0 rMn3 rMn4 rMn5 rMn6 rMn7 rMn8 rMn9 rMn10 hRo sMn sRo p1 o1 go1) (cwV 1 hts (gcV_X10_isRuleOfRoad (mB41 _ (List.mem_of_getElem? (i := 0) rfl))) rfl rfl rfl hdV_X10_isRuleOfRoad ⟨Nat.le_of_ble_eq_true rfl, Nat.le_of_ble_eq_true rfl⟩) hK hP hS hP (va_recv hK hP (ci := 9) (q0 := 0) rfl (rwl o_Mn)) rfl hl.1 rfl (Nat.le_of_ble_eq_true rfl) dX10_whyNoRuns_2 ⟨Nat.zero_le _, Nat.zero_le _⟩ (fun H locs hP hS => ?_)
    refine lv_if_ne (tgt := 10) hx hb dX10_whyNoRuns_5 (by decide) (fun c2 => ?_) (fun c2 => ?_)
    · have hf := it_f hf c2
      refine lv_iload_n hx hb dX10_whyNoRuns_10 rfl (lv_at hl 2 rfl) ?_
      obtain ⟨o3, go3, hf⟩ := bd_s hf
      refine ro_Si (As := [.int p2]) (rest := []) ⟨hx, hb, hml, hown, hts⟩ (c_X10_isSeed l D K F p2 o3 go3) (va_cwS 1 hts (gcS_X10_isSeed (mB60 _ (List.mem_of_getElem? (i := 8) rfl))) rfl rfl rfl hdS_X10_isSeed ⟨Nat.le_of_ble_eq_true rfl, Nat.le_of_ble_eq_true rfl⟩) hK hP hS va_Pnil rfl hl.1 rfl (Nat.le_of_ble_eq_true rfl) dX10_whyNoRuns_11 ⟨Nat.zero_le _, Nat.zero_le _⟩ (fun H locs hP hS => ?_)
      refine lv_if_eq (tgt := 32) hx hb dX10_whyNoRuns_14 (by decide) (fun c4 => ?_) (fun c4 => ?_)
      · have hf := it_t hf c4
        refine lv_iconst (v := (2 : Int32)) hx hb dX10_whyNoRuns_32 (by decide) ?_
        have e9 := Option.some.inj hf
        rw [hQ]
        exact W.iret (v := (2 : Int32)) hx hb hr (fun t ht hW => ⟨⟨(2 : Int32), (), rfl, e9, trivial⟩, hS.F ht⟩) hS.2.2 dX10_whyNoRuns_33
      · have hf := it_f hf c4
        refine lv_iload_n hx hb dX10_whyNoRuns_17 rfl (lv_at hl 3 rfl) ?_
        refine lv_iconst (v := (1 : Int32)) hx hb dX10_whyNoRuns_18 (by decide) ?_
        refine lv_icmp_lt (tgt := 32) hx hb dX10_whyNoRuns_19 (by decide) (fun c5 => ?_) (fun c5 => ?_)
        · have hf := it_t hf c5
          refine lv_iconst (v := (2 : Int32)) hx hb dX10_whyNoRuns_32 (by decide) ?_
          have e9 := Option.some.inj hf
          rw [hQ]
          exact W.iret (v := (2 : Int32)) hx hb hr (fun t ht hW => ⟨⟨(2 : Int32), (), rfl, e9, trivial⟩, hS.F ht⟩) hS.2.2 dX10_whyNoRuns_33
        · have hf := it_f hf c5
          refine lv_iload_n hx hb dX10_whyNoRuns_22 rfl (lv_at hl 3 rfl) ?_
          refine lv_bipush (v := (50 : Int32)) hx hb dX10_whyNoRuns_23 (by decide) ?_
          refine lv_icmp_gt (tgt := 32) hx hb dX10_whyNoRuns_25 (by decide) (fun c6 => ?_) (fun c6 => ?_)
          · have hf := it_t hf c6
            refine lv_iconst (v := (2 : Int32)) hx hb dX10_whyNoRuns_32 (by decide) ?_
            have e9 := Option.some.inj hf
            rw [hQ]
            exact W.iret (v := (2 : Int32)) hx hb hr (fun t ht hW => ⟨⟨(2 : Int32), (), rfl, e9, trivial⟩, hS.F ht⟩) hS.2.2 dX10_whyNoRuns_33
          · have hf := it_f hf c6
            refine lv_iconst (v := (0 : Int32)) hx hb dX10_whyNoRuns_28 (by decide) ?_
            refine lv_goto (tgt := 33) hx hb dX10_whyNoRuns_29 (by decide) ?_
            have e9 := Option.some.inj hf
            rw [hQ]
            exact W.iret (v := (0 : Int32)) hx hb hr (fun t ht hW => ⟨⟨(0 : Int32), (), rfl, e9, trivial⟩, hS.F ht⟩) hS.2.2 dX10_whyNoRuns_33
    · have hf := it_t hf c2
      refine lv_iconst (v := (1 : Int32)) hx hb dX10_whyNoRuns_8 (by decide) ?_
      have e9 := Option.some.inj hf
      rw [hQ]
      exact W.iret (v := (1 : Int32)) hx hb hr (fun t ht hW => ⟨⟨(1 : Int32), (), rfl, e9, trivial⟩, hS.F ht⟩) hS.2.2 dX10_whyNoRuns_9
  rw [hHe] at hgo
  exact hgo

theorem gcV_X10_whyNoRuns {T0 : Cond} {own : String} {i : Nat} (h : Cond.methodLink own i yX10_whyNoRuns ∈ wsL_law) : GoodIn (T0 :: wsL_law) (wsV own i RX10 yX10_whyNoRuns wz_X10_whyNoRuns) := gV h (mB60 _ (List.mem_of_getElem? (i := 5) rfl)) (mB60 _ (List.mem_of_getElem? (i := 6) rfl)) (mB1 _ (List.mem_of_getElem? (i := 2) rfl)) (mB60 _ (List.mem_of_getElem? (i := 7) rfl))
theorem hdV_X10_whyNoRuns : yX10_whyNoRuns.cls = RX10 ∧ yX10_whyNoRuns.cls ≠ "java/lang/invoke/MethodHandle" ∧ yX10_whyNoRuns.cls ≠ "java/lang/invoke/VarHandle" ∧ (parseMethodDescriptor yX10_whyNoRuns.desc).map (fun d => d.parameters.length) = some 3 := by decide +kernel
theorem gcV_X1_travelDrawn {T0 : Cond} {own : String} {i : Nat} (h : Cond.methodLink own i yX1_travelDrawn ∈ wsL_law) : GoodIn (T0 :: wsL_law) (wsV own i RX1 yX1_travelDrawn wz_X1_travelDrawn) := gV h (mB60 _ (List.mem_of_getElem? (i := 13) rfl)) (mB60 _ (List.mem_of_getElem? (i := 14) rfl)) (mB2 _ (List.mem_of_getElem? (i := 6) rfl)) (mB60 _ (List.mem_of_getElem? (i := 15) rfl))
theorem hdV_X1_travelDrawn : yX1_travelDrawn.cls = RX1 ∧ yX1_travelDrawn.cls ≠ "java/lang/invoke/MethodHandle" ∧ yX1_travelDrawn.cls ≠ "java/lang/invoke/VarHandle" ∧ (parseMethodDescriptor yX1_travelDrawn.desc).map (fun d => d.parameters.length) = some 3 := by decide +kernel
def wz_X10_run : List Cond := .code yX10_run cX10_run 4 (some .int) :: wsL_law
abbrev r_X10_run : Room := { frames := 5, cells := 0, slots := 0, locals := 121 }
set_option maxHeartbeats 4000000 in
set_option maxRecDepth 100000 in
theorem c_X10_run (l : Launch) (D : va_G) (K : Nat → ClassId) (F : Nat) (hMn : Nat → Nat) (rMn0 : Nat) (rMn3 : Nat) (rMn4 : Nat) (rMn5 : Nat) (rMn7 : Nat) (rMn8 : Nat) (rMn9 : Nat) (rMn10 : Nat) (hDr : Nat → Nat) (rDr3 : Nat) (rDr4 : Nat) (hDw : Nat → Nat) (hRo : Nat → Nat) (sz : Nat) (sMn : MS) (sDr : MS) (sDw : MS) (sRo : MS) (p1 : Int32) (p2 : Int32) (res : Int32 × Nat × MS × MS × MS) (hf : f_X10_run F sRo p1 p2 sMn sDr sDw = some res) : Met l yX10_run wz_X10_run r_X10_run (va_Pc [.ref (hMn 99), .int p1, .int p2] (PW D K (wMn K hMn rMn0 (hRo 99) rMn3 rMn4 rMn5 (hDr 99) rMn7 rMn8 rMn9 rMn10 sMn ++ wDr K hDr (hDw 99) rDr3 rDr4 sDr ++ wDw K hDw sDw ++ wRo K hRo sRo) sz)) (va_Qi (fun r u => r = res.1 ∧ u = res.2) (fun u t => BW D K (va_A (wMn K hMn rMn0 (hRo 99) rMn3 rMn4 rMn5 (hDr 99) rMn7 rMn8 rMn9 rMn10 sMn ++ wDr K hDr (hDw 99) rDr3 rDr4 sDr ++ wDw K hDw sDw ++ wRo K hRo sRo) sz) (match u.1 with | _ => wMn K hMn rMn0 (hRo 99) rMn3 rMn4 rMn5 (hDr 99) rMn7 rMn8 rMn9 rMn10 u.2.1 ++ wDr K hDr (hDw 99) rDr3 rDr4 u.2.2.1 ++ wDw K hDw u.2.2.2 ++ wRo K hRo sRo) t) (va_A (wMn K hMn rMn0 (hRo 99) rMn3 rMn4 rMn5 (hDr 99) rMn7 rMn8 rMn9 rMn10 sMn ++ wDr K hDr (hDw 99) rDr3 rDr4 sDr ++ wDw K hDw sDw ++ wRo K hRo sRo) sz)) 0 0 (va_A (wMn K hMn rMn0 (hRo 99) rMn3 rMn4 rMn5 (hDr 99) rMn7 rMn8 rMn9 rMn10 sMn ++ wDr K hDr (hDw 99) rDr3 rDr4 sDr ++ wDw K hDw sDw ++ wRo K hRo sRo) sz) := by
  refine Met.ofW (cc := cX10_run) (maxL := 4) (ret := (some .int)) (by decide) rfl ?_
  intro p e s m args below meth c s₁ B hml hv
  obtain ⟨hargs, hsz, hP, hK, hD0⟩ := hv
  have hx := B.exec
  have hb := B.bytes
  have hr := B.returns
  have hts := atoms_spec (ws := wz_X10_run) B.pre
  have htl : ∀ w ∈ wsL_law, w.before args s = true := fun w h => hts w (List.mem_cons_of_mem _ h)
  have hown : s.vm.findClass RX10 = some m.cls := findClass_of_methodNamed B.named
  have hlocks := B.notSynchronized
  subst hsz
  have hD := hD0.self (sz := s.heap.size)
  generalize hAe : va_A (wMn K hMn rMn0 (hRo 99) rMn3 rMn4 rMn5 (hDr 99) rMn7 rMn8 rMn9 rMn10 sMn ++ wDr K hDr (hDw 99) rDr3 rDr4 sDr ++ wDw K hDw sDw ++ wRo K hRo sRo) s.heap.size = A at hD ⊢
  have hA : ∀ q : Nat, s.heap.size ≤ q → A q := fun q h => by rw [← hAe]; exact Or.inr h
  have hS : va_S A s.heap s.heap [] := va_S.rf
  have iX10 : ∀ w ∈ wsX100, w ∈ wz_X10_run := fun w h => List.mem_cons_of_mem _ (inlX10 w h)
  suffices hgo : ∀ Q : State → Prop, Q = MQ below (va_Qi (fun r u => r = res.1 ∧ u = res.2) (fun u t => BW D K A (match u.1 with | _ => wMn K hMn rMn0 (hRo 99) rMn3 rMn4 rMn5 (hDr 99) rMn7 rMn8 rMn9 rMn10 u.2.1 ++ wDr K hDr (hDw 99) rDr3 rDr4 u.2.2.1 ++ wDw K hDw u.2.2.2 ++ wRo K hRo sRo) t) A) args s 0 0 A → W p l e (headSpec wz_X10_run r_X10_run).room s m args below meth c s.heap [] 0 0 Q (entryFrame m args 4) from hgo _ rfl
  intro Q hQ
  have hen : entryFrame m args 4 = entryFrame m (([.ref (hMn 99), .int p1, .int p2] : List Value).toArray) 4 := by rw [hargs]
  have hl := lv_entry ([.ref (hMn 99), .int p1, .int p2]) (n := 4) (Nat.le_of_ble_eq_true rfl)
  rw [hen, lg_entry_eq]
  generalize (lg_sl ([.ref (hMn 99), .int p1, .int p2]) ++ List.replicate (4 - (lg_sl ([.ref (hMn 99), .int p1, .int p2])).length) Slot.unset).toArray = ls at hl ⊢
  have hl : lv_has ls 4 [(0, .ref (hMn 99)), (1, .int p1), (2, .int p2)] := hl
  unfold f_X10_run at hf
  obtain ⟨H, hHe⟩ : ∃ z, z = s.heap := ⟨_, rfl⟩
  obtain ⟨locs, hLe⟩ : ∃ z : List Loc, z = [] := ⟨_, rfl⟩
  rw [← hLe]
  have hS : va_S A s.heap H locs := by rw [hHe, hLe]; exact hS
  have hP : va_P D vwCl (wMn K hMn rMn0 (hRo 99) rMn3 rMn4 rMn5 (hDr 99) rMn7 rMn8 rMn9 rMn10 sMn ++ wDr K hDr (hDw 99) rDr3 rDr4 sDr ++ wDw K hDw sDw ++ wRo K hRo sRo) H := by rw [hHe]; exact hP
  have hgo : W p l e (headSpec wz_X10_run r_X10_run).room s m args below meth c H locs 0 0 Q (F0 m 0 ls []) := by
    refine lv_aload_n hx hb dX10_run_0 rfl (lv_at hl 0 rfl) ?_
    refine lv_iload_n hx hb dX10_run_1 rfl (lv_at hl 1 rfl) ?_
    refine lv_iload_n hx hb dX10_run_2 rfl (lv_at hl 2 rfl) ?_
    refine lv_iconst (v := (1 : Int32)) hx hb dX10_run_3 (by decide) ?_
    obtain ⟨o1, go1, hf⟩ := bd_s hf
    refine ro_Vi (As := [.int p1, .int p2, .int (1 : Int32)]) (rest := []) ⟨hx, hb, hml, hown, hts⟩ (c_X10_whyNoRuns l D K F hMn rMn0 rMn3 rMn4 rMn5 (hDr 99) rMn7 rMn8 rMn9 rMn10 hRo sMn sRo p1 p2 (1 : Int32) o1 go1) (cwV 3 hts (gcV_X10_whyNoRuns (mB60 _ (List.mem_of_getElem? (i := 4) rfl))) rfl rfl rfl hdV_X10_whyNoRuns ⟨Nat.le_of_ble_eq_true rfl, Nat.le_of_ble_eq_true rfl⟩) hK hP hS (va_PL (cs := [wMn K hMn rMn0 (hRo 99) rMn3 rMn4 rMn5 (hDr 99) rMn7 rMn8 rMn9 rMn10 sMn, wDr K hDr (hDw 99) rDr3 rDr4 sDr, wDw K hDw sDw, wRo K hRo sRo]) (cc := [wMn K hMn rMn0 (hRo 99) rMn3 rMn4 rMn5 (hDr 99) rMn7 rMn8 rMn9 rMn10 sMn, wRo K hRo sRo]) hP (fl4 _ _ _ _) [0, 3] rfl (fl2 _ _)) (va_recv hK hP (ci := 9) (q0 := 0) rfl (rwl (rwl (rwl o_Mn)))) rfl hl.1 rfl (Nat.le_of_ble_eq_true rfl) dX10_run_4 ⟨Nat.zero_le _, Nat.zero_le _⟩ (fun H locs hP hS => ?_)
    refine lv_istore_n (lv' := [(3, .int o1), (0, .ref (hMn 99)), (1, .int p1), (2, .int p2)]) hx hb dX10_run_7 rfl hl (by decide) rfl (fun ls hl => ?_)
    refine lv_iload_n hx hb dX10_run_8 rfl (lv_at hl 0 rfl) ?_
    refine lv_if_eq (tgt := 18) hx hb dX10_run_9 (by decide) (fun c2 => ?_) (fun c2 => ?_)
    · have hf := it_t hf c2
      refine lv_aload_n hx hb dX10_run_18 rfl (lv_at hl 1 rfl) ?_
      refine lv_aload_n hx hb dX10_run_19 rfl (lv_at hl 1 rfl) ?_
      refine va_get (D := D) (ci := 9) (v := .ref (hDr 99)) (C := RX10) (T := TX10) (N := 14) hx hb hts iX10 hown hK hP 0 (rwl (rwl (rwl o_Mn))) rfl 6 (by decide) (htl _ (mB2 _ (List.mem_of_getElem? (i := 7) rfl))) (fun _ h9 => h9) rfl dX10_run_20 ?_
      refine lv_aload_n hx hb dX10_run_23 rfl (lv_at hl 1 rfl) ?_
      refine va_get (D := D) (ci := 9) (v := .ref (hRo 99)) (C := RX10) (T := TX10) (N := 14) hx hb hts iX10 hown hK hP 0 (rwl (rwl (rwl o_Mn))) rfl 2 (by decide) (htl _ (mB1 _ (List.mem_of_getElem? (i := 18) rfl))) (fun _ h9 => h9) rfl dX10_run_24 ?_
      refine lv_iload_n hx hb dX10_run_27 rfl (lv_at hl 2 rfl) ?_
      refine lv_iload_n hx hb dX10_run_28 rfl (lv_at hl 3 rfl) ?_
      obtain ⟨o3, go3, hf⟩ := bd_s hf
      refine rk_Vi (wn := wMn K hMn rMn0 (hRo 99) rMn3 rMn4 rMn5 (hDr 99) rMn7 rMn8 rMn9 rMn10 sMn ++ wDr K hDr (hDw 99) rDr3 rDr4 o3.2.1 ++ wDw K hDw o3.2.2 ++ wRo K hRo sRo) [wMn K hMn rMn0 (hRo 99) rMn3 rMn4 rMn5 (hDr 99) rMn7 rMn8 rMn9 rMn10 sMn, wDr K hDr (hDw 99) rDr3 rDr4 sDr, wDw K hDw sDw, wRo K hRo sRo] [wDr K hDr (hDw 99) rDr3 rDr4 sDr, wDw K hDw sDw, wRo K hRo sRo] [wDr K hDr (hDw 99) rDr3 rDr4 o3.2.1, wDw K hDw o3.2.2, wRo K hRo sRo] [wMn K hMn rMn0 (hRo 99) rMn3 rMn4 rMn5 (hDr 99) rMn7 rMn8 rMn9 rMn10 sMn, wDr K hDr (hDw 99) rDr3 rDr4 o3.2.1, wDw K hDw o3.2.2, wRo K hRo sRo] (As := [.ref (hRo 99), .int p1, .int p2]) (rest := [.ref (hMn 99)]) ⟨hx, hb, hml, hown, hts⟩ (c_X1_travelDrawn l D K F hDr rDr3 rDr4 hDw hRo H.size sDr sDw sRo p1 p2 o3 go3) (cwV 3 hts (gcV_X1_travelDrawn (mB60 _ (List.mem_of_getElem? (i := 12) rfl))) rfl rfl rfl hdV_X1_travelDrawn ⟨Nat.le_of_ble_eq_true rfl, Nat.le_of_ble_eq_true rfl⟩) hK hP hD hS hA [1, 2, 3] (fl4 _ _ _ _) rfl (by decide) (fl3 _ _ _) (fl3 _ _ _) rfl rfl (fl4 _ _ _ _) (va_recv hK hP (ci := 1) (q0 := (1 + 0)) rfl (rwl (rwl (rwr ln_Mn o_Dr)))) rfl hl.1 rfl (Nat.le_of_ble_eq_true rfl) dX10_run_29 ⟨Nat.zero_le _, Nat.zero_le _⟩ (fun H locs hP hD hS => ?_)
      have hP : va_P D vwCl (wMn K hMn rMn0 (hRo 99) rMn3 rMn4 rMn5 (hDr 99) rMn7 rMn8 rMn9 rMn10 sMn ++ wDr K hDr (hDw 99) rDr3 rDr4 o3.2.1 ++ wDw K hDw o3.2.2 ++ wRo K hRo sRo) H := hP
      have hD : va_D A (wMn K hMn rMn0 (hRo 99) rMn3 rMn4 rMn5 (hDr 99) rMn7 rMn8 rMn9 rMn10 sMn ++ wDr K hDr (hDw 99) rDr3 rDr4 o3.2.1 ++ wDw K hDw o3.2.2 ++ wRo K hRo sRo) := hD
      obtain ⟨o4, go4, hf⟩ := bd_s hf
      refine rk_Vi (wn := wMn K hMn rMn0 (hRo 99) rMn3 rMn4 rMn5 (hDr 99) rMn7 rMn8 rMn9 rMn10 o4.2 ++ wDr K hDr (hDw 99) rDr3 rDr4 o3.2.1 ++ wDw K hDw o3.2.2 ++ wRo K hRo sRo) [wMn K hMn rMn0 (hRo 99) rMn3 rMn4 rMn5 (hDr 99) rMn7 rMn8 rMn9 rMn10 sMn, wDr K hDr (hDw 99) rDr3 rDr4 o3.2.1, wDw K hDw o3.2.2, wRo K hRo sRo] [wMn K hMn rMn0 (hRo 99) rMn3 rMn4 rMn5 (hDr 99) rMn7 rMn8 rMn9 rMn10 sMn] [wMn K hMn rMn0 (hRo 99) rMn3 rMn4 rMn5 (hDr 99) rMn7 rMn8 rMn9 rMn10 o4.2] [wMn K hMn rMn0 (hRo 99) rMn3 rMn4 rMn5 (hDr 99) rMn7 rMn8 rMn9 rMn10 o4.2, wDr K hDr (hDw 99) rDr3 rDr4 o3.2.1, wDw K hDw o3.2.2, wRo K hRo sRo] (As := [.int o3.1]) (rest := []) ⟨hx, hb, hml, hown, hts⟩ (c_X10_accept l D K F hMn rMn0 (hRo 99) rMn3 rMn4 rMn5 (hDr 99) rMn7 rMn8 rMn9 rMn10 H.size sMn o3.1 o4 go4) (cwV 1 hts (gcV_X10_accept (mB17 _ (List.mem_of_getElem? (i := 14) rfl))) rfl rfl rfl hdV_X10_accept ⟨Nat.le_of_ble_eq_true rfl, Nat.le_of_ble_eq_true rfl⟩) hK hP hD hS hA [0] (fl4 _ _ _ _) rfl (by decide) (fl1 _) (fl1 _) rfl rfl (fl4 _ _ _ _) (va_recv hK hP (ci := 9) (q0 := 0) rfl (rwl (rwl (rwl o_Mn)))) rfl hl.1 rfl (Nat.le_of_ble_eq_true rfl) dX10_run_32 ⟨Nat.zero_le _, Nat.zero_le _⟩ (fun H locs hP hD hS => ?_)
      have hP : va_P D vwCl (wMn K hMn rMn0 (hRo 99) rMn3 rMn4 rMn5 (hDr 99) rMn7 rMn8 rMn9 rMn10 o4.2 ++ wDr K hDr (hDw 99) rDr3 rDr4 o3.2.1 ++ wDw K hDw o3.2.2 ++ wRo K hRo sRo) H := hP
      have hD : va_D A (wMn K hMn rMn0 (hRo 99) rMn3 rMn4 rMn5 (hDr 99) rMn7 rMn8 rMn9 rMn10 o4.2 ++ wDr K hDr (hDw 99) rDr3 rDr4 o3.2.1 ++ wDw K hDw o3.2.2 ++ wRo K hRo sRo) := hD
      have e9 := Option.some.inj hf
      rw [hQ]
      exact W.iret (v := o4.1) hx hb hr (fun t ht hW => ⟨⟨o4.1, (0, o4.2, o3.2.1, o3.2.2), rfl, ⟨pr1 e9, pr2 e9⟩, ⟨by rw [ht]; exact hP, va_K.moved hW.alike hK, hD⟩⟩, hS.F ht⟩) hS.2.2 dX10_run_35
    · have hf := it_f hf c2
      refine lv_aload_n hx hb dX10_run_12 rfl (lv_at hl 1 rfl) ?_
      refine lv_iload_n hx hb dX10_run_13 rfl (lv_at hl 0 rfl) ?_
      obtain ⟨o5, go5, hf⟩ := bd_s hf
      refine rk_Vi (wn := wMn K hMn rMn0 (hRo 99) rMn3 rMn4 rMn5 (hDr 99) rMn7 rMn8 rMn9 rMn10 o5.2 ++ wDr K hDr (hDw 99) rDr3 rDr4 sDr ++ wDw K hDw sDw ++ wRo K hRo sRo) [wMn K hMn rMn0 (hRo 99) rMn3 rMn4 rMn5 (hDr 99) rMn7 rMn8 rMn9 rMn10 sMn, wDr K hDr (hDw 99) rDr3 rDr4 sDr, wDw K hDw sDw, wRo K hRo sRo] [wMn K hMn rMn0 (hRo 99) rMn3 rMn4 rMn5 (hDr 99) rMn7 rMn8 rMn9 rMn10 sMn] [wMn K hMn rMn0 (hRo 99) rMn3 rMn4 rMn5 (hDr 99) rMn7 rMn8 rMn9 rMn10 o5.2] [wMn K hMn rMn0 (hRo 99) rMn3 rMn4 rMn5 (hDr 99) rMn7 rMn8 rMn9 rMn10 o5.2, wDr K hDr (hDw 99) rDr3 rDr4 sDr, wDw K hDw sDw, wRo K hRo sRo] (As := [.int o1]) (rest := []) ⟨hx, hb, hml, hown, hts⟩ (c_X10_refuse l D K F hMn rMn0 (hRo 99) rMn3 rMn4 rMn5 (hDr 99) rMn7 rMn8 rMn9 rMn10 H.size sMn o1 o5 go5) (cwV 1 hts (gcV_X10_refuse (mB7 _ (List.mem_of_getElem? (i := 18) rfl))) rfl rfl rfl hdV_X10_refuse ⟨Nat.le_of_ble_eq_true rfl, Nat.le_of_ble_eq_true rfl⟩) hK hP hD hS hA [0] (fl4 _ _ _ _) rfl (by decide) (fl1 _) (fl1 _) rfl rfl (fl4 _ _ _ _) (va_recv hK hP (ci := 9) (q0 := 0) rfl (rwl (rwl (rwl o_Mn)))) rfl hl.1 rfl (Nat.le_of_ble_eq_true rfl) dX10_run_14 ⟨Nat.zero_le _, Nat.zero_le _⟩ (fun H locs hP hD hS => ?_)
      have hP : va_P D vwCl (wMn K hMn rMn0 (hRo 99) rMn3 rMn4 rMn5 (hDr 99) rMn7 rMn8 rMn9 rMn10 o5.2 ++ wDr K hDr (hDw 99) rDr3 rDr4 sDr ++ wDw K hDw sDw ++ wRo K hRo sRo) H := hP
      have hD : va_D A (wMn K hMn rMn0 (hRo 99) rMn3 rMn4 rMn5 (hDr 99) rMn7 rMn8 rMn9 rMn10 o5.2 ++ wDr K hDr (hDw 99) rDr3 rDr4 sDr ++ wDw K hDw sDw ++ wRo K hRo sRo) := hD
      have e9 := Option.some.inj hf
      rw [hQ]
      exact W.iret (v := o5.1) hx hb hr (fun t ht hW => ⟨⟨o5.1, (0, o5.2, sDr, sDw), rfl, ⟨pr1 e9, pr2 e9⟩, ⟨by rw [ht]; exact hP, va_K.moved hW.alike hK, hD⟩⟩, hS.F ht⟩) hS.2.2 dX10_run_17
  rw [hHe] at hgo
  exact hgo

def wz_X10_through : List Cond := .code yX10_through cX10_through 7 (some .int) :: wsL_law
abbrev r_X10_through : Room := { frames := 5, cells := 0, slots := 0, locals := 121 }
set_option maxHeartbeats 4000000 in
set_option maxRecDepth 100000 in
theorem c_X10_through (l : Launch) (D : va_G) (K : Nat → ClassId) (F : Nat) (hMn : Nat → Nat) (rMn0 : Nat) (rMn3 : Nat) (rMn4 : Nat) (rMn5 : Nat) (rMn7 : Nat) (rMn8 : Nat) (rMn9 : Nat) (rMn10 : Nat) (hDr : Nat → Nat) (rDr3 : Nat) (rDr4 : Nat) (hDw : Nat → Nat) (hRo : Nat → Nat) (sz : Nat) (sMn : MS) (sDr : MS) (sDw : MS) (sRo : MS) (p1 : Int32) (p2 : Int32) (p3 : Int32) (res : Int32 × Nat × MS × MS × MS) (hf : f_X10_through F sRo p1 p2 p3 sMn sDr sDw = some res) : Met l yX10_through wz_X10_through r_X10_through (va_Pc [.ref (hMn 99), .int p1, .int p2, .int p3] (PW D K (wMn K hMn rMn0 (hRo 99) rMn3 rMn4 rMn5 (hDr 99) rMn7 rMn8 rMn9 rMn10 sMn ++ wDr K hDr (hDw 99) rDr3 rDr4 sDr ++ wDw K hDw sDw ++ wRo K hRo sRo) sz)) (va_Qi (fun r u => r = res.1 ∧ u = res.2) (fun u t => BW D K (va_A (wMn K hMn rMn0 (hRo 99) rMn3 rMn4 rMn5 (hDr 99) rMn7 rMn8 rMn9 rMn10 sMn ++ wDr K hDr (hDw 99) rDr3 rDr4 sDr ++ wDw K hDw sDw ++ wRo K hRo sRo) sz) (match u.1 with | _ => wMn K hMn rMn0 (hRo 99) rMn3 rMn4 rMn5 (hDr 99) rMn7 rMn8 rMn9 rMn10 u.2.1 ++ wDr K hDr (hDw 99) rDr3 rDr4 u.2.2.1 ++ wDw K hDw u.2.2.2 ++ wRo K hRo sRo) t) (va_A (wMn K hMn rMn0 (hRo 99) rMn3 rMn4 rMn5 (hDr 99) rMn7 rMn8 rMn9 rMn10 sMn ++ wDr K hDr (hDw 99) rDr3 rDr4 sDr ++ wDw K hDw sDw ++ wRo K hRo sRo) sz)) 0 0 (va_A (wMn K hMn rMn0 (hRo 99) rMn3 rMn4 rMn5 (hDr 99) rMn7 rMn8 rMn9 rMn10 sMn ++ wDr K hDr (hDw 99) rDr3 rDr4 sDr ++ wDw K hDw sDw ++ wRo K hRo sRo) sz) := by
  refine Met.ofW (cc := cX10_through) (maxL := 7) (ret := (some .int)) (by decide) rfl ?_
  intro p e s m args below meth c s₁ B hml hv
  obtain ⟨hargs, hsz, hP, hK, hD0⟩ := hv
  have hx := B.exec
  have hb := B.bytes
  have hr := B.returns
  have hts := atoms_spec (ws := wz_X10_through) B.pre
  have htl : ∀ w ∈ wsL_law, w.before args s = true := fun w h => hts w (List.mem_cons_of_mem _ h)
  have hown : s.vm.findClass RX10 = some m.cls := findClass_of_methodNamed B.named
  have hlocks := B.notSynchronized
  subst hsz
  have hD := hD0.self (sz := s.heap.size)
  generalize hAe : va_A (wMn K hMn rMn0 (hRo 99) rMn3 rMn4 rMn5 (hDr 99) rMn7 rMn8 rMn9 rMn10 sMn ++ wDr K hDr (hDw 99) rDr3 rDr4 sDr ++ wDw K hDw sDw ++ wRo K hRo sRo) s.heap.size = A at hD ⊢
  have hA : ∀ q : Nat, s.heap.size ≤ q → A q := fun q h => by rw [← hAe]; exact Or.inr h
  have hS : va_S A s.heap s.heap [] := va_S.rf
  have iX10 : ∀ w ∈ wsX100, w ∈ wz_X10_through := fun w h => List.mem_cons_of_mem _ (inlX10 w h)
  suffices hgo : ∀ Q : State → Prop, Q = MQ below (va_Qi (fun r u => r = res.1 ∧ u = res.2) (fun u t => BW D K A (match u.1 with | _ => wMn K hMn rMn0 (hRo 99) rMn3 rMn4 rMn5 (hDr 99) rMn7 rMn8 rMn9 rMn10 u.2.1 ++ wDr K hDr (hDw 99) rDr3 rDr4 u.2.2.1 ++ wDw K hDw u.2.2.2 ++ wRo K hRo sRo) t) A) args s 0 0 A → W p l e (headSpec wz_X10_through r_X10_through).room s m args below meth c s.heap [] 0 0 Q (entryFrame m args 7) from hgo _ rfl
  intro Q hQ
  have w67 : ∀ (x5 : Int32), ∀ (sMn : MS), ∀ (sDr : MS), ∀ (sDw : MS), ∀ (H : Heap) (locs : List Loc) (ls : Array Slot), f_X10_through_67 F sRo p1 p2 p3 x5 sMn sDr sDw = some res → va_P D vwCl (wMn K hMn rMn0 (hRo 99) rMn3 rMn4 rMn5 (hDr 99) rMn7 rMn8 rMn9 rMn10 sMn ++ wDr K hDr (hDw 99) rDr3 rDr4 sDr ++ wDw K hDw sDw ++ wRo K hRo sRo) H → va_D A (wMn K hMn rMn0 (hRo 99) rMn3 rMn4 rMn5 (hDr 99) rMn7 rMn8 rMn9 rMn10 sMn ++ wDr K hDr (hDw 99) rDr3 rDr4 sDr ++ wDw K hDw sDw ++ wRo K hRo sRo) → va_S A s.heap H locs → lv_has ls 7 [(0, .ref (hMn 99)), (5, .int x5)] → W p l e (headSpec wz_X10_through r_X10_through).room s m args below meth c H locs 0 0 Q (F0 m 67 ls []) := by
    intro x5 sMn sDr sDw H locs ls hf hP hD hS hl
    unfold f_X10_through_67 at hf
    refine lv_aload_n hx hb dX10_through_67 rfl (lv_at hl 0 rfl) ?_
    refine lv_iload hx hb dX10_through_68 (lv_at hl 1 rfl) ?_
    obtain ⟨o10, go10, hf⟩ := bd_s hf
    refine rk_Vi (wn := wMn K hMn rMn0 (hRo 99) rMn3 rMn4 rMn5 (hDr 99) rMn7 rMn8 rMn9 rMn10 o10.2 ++ wDr K hDr (hDw 99) rDr3 rDr4 sDr ++ wDw K hDw sDw ++ wRo K hRo sRo) [wMn K hMn rMn0 (hRo 99) rMn3 rMn4 rMn5 (hDr 99) rMn7 rMn8 rMn9 rMn10 sMn, wDr K hDr (hDw 99) rDr3 rDr4 sDr, wDw K hDw sDw, wRo K hRo sRo] [wMn K hMn rMn0 (hRo 99) rMn3 rMn4 rMn5 (hDr 99) rMn7 rMn8 rMn9 rMn10 sMn] [wMn K hMn rMn0 (hRo 99) rMn3 rMn4 rMn5 (hDr 99) rMn7 rMn8 rMn9 rMn10 o10.2] [wMn K hMn rMn0 (hRo 99) rMn3 rMn4 rMn5 (hDr 99) rMn7 rMn8 rMn9 rMn10 o10.2, wDr K hDr (hDw 99) rDr3 rDr4 sDr, wDw K hDw sDw, wRo K hRo sRo] (As := [.int x5]) (rest := []) ⟨hx, hb, hml, hown, hts⟩ (c_X10_accept l D K F hMn rMn0 (hRo 99) rMn3 rMn4 rMn5 (hDr 99) rMn7 rMn8 rMn9 rMn10 H.size sMn x5 o10 go10) (cwV 1 hts (gcV_X10_accept (mB17 _ (List.mem_of_getElem? (i := 14) rfl))) rfl rfl rfl hdV_X10_accept ⟨Nat.le_of_ble_eq_true rfl, Nat.le_of_ble_eq_true rfl⟩) hK hP hD hS hA [0] (fl4 _ _ _ _) rfl (by decide) (fl1 _) (fl1 _) rfl rfl (fl4 _ _ _ _) (va_recv hK hP (ci := 9) (q0 := 0) rfl (rwl (rwl (rwl o_Mn)))) rfl hl.1 rfl (Nat.le_of_ble_eq_true rfl) dX10_through_70 ⟨Nat.zero_le _, Nat.zero_le _⟩ (fun H locs hP hD hS => ?_)
    have hP : va_P D vwCl (wMn K hMn rMn0 (hRo 99) rMn3 rMn4 rMn5 (hDr 99) rMn7 rMn8 rMn9 rMn10 o10.2 ++ wDr K hDr (hDw 99) rDr3 rDr4 sDr ++ wDw K hDw sDw ++ wRo K hRo sRo) H := hP
    have hD : va_D A (wMn K hMn rMn0 (hRo 99) rMn3 rMn4 rMn5 (hDr 99) rMn7 rMn8 rMn9 rMn10 o10.2 ++ wDr K hDr (hDw 99) rDr3 rDr4 sDr ++ wDw K hDw sDw ++ wRo K hRo sRo) := hD
    have e9 := Option.some.inj hf
    rw [hQ]
    exact W.iret (v := o10.1) hx hb hr (fun t ht hW => ⟨⟨o10.1, (0, o10.2, sDr, sDw), rfl, ⟨pr1 e9, pr2 e9⟩, ⟨by rw [ht]; exact hP, va_K.moved hW.alike hK, hD⟩⟩, hS.F ht⟩) hS.2.2 dX10_through_73
  have w61 : ∀ (k27 : Int32 → Int32 → MS → MS → MS → Option (Int32 × Nat × MS × MS × MS)), (∀ (x5 : Int32), ∀ (x6 : Int32), ∀ (sMn : MS), ∀ (sDr : MS), ∀ (sDw : MS), ∀ (H : Heap) (locs : List Loc) (ls : Array Slot), k27 x5 x6 sMn sDr sDw = some res → va_P D vwCl (wMn K hMn rMn0 (hRo 99) rMn3 rMn4 rMn5 (hDr 99) rMn7 rMn8 rMn9 rMn10 sMn ++ wDr K hDr (hDw 99) rDr3 rDr4 sDr ++ wDw K hDw sDw ++ wRo K hRo sRo) H → va_D A (wMn K hMn rMn0 (hRo 99) rMn3 rMn4 rMn5 (hDr 99) rMn7 rMn8 rMn9 rMn10 sMn ++ wDr K hDr (hDw 99) rDr3 rDr4 sDr ++ wDw K hDw sDw ++ wRo K hRo sRo) → va_S A s.heap H locs → lv_has ls 7 [(0, .ref (hMn 99)), (1, .int p1), (2, .int p2), (3, .int p3), (5, .int x5), (6, .int x6)] → W p l e (headSpec wz_X10_through r_X10_through).room s m args below meth c H locs 0 0 Q (F0 m 27 ls [])) → ∀ (x5 : Int32), ∀ (x6 : Int32), ∀ (sMn : MS), ∀ (sDr : MS), ∀ (sDw : MS), ∀ (H : Heap) (locs : List Loc) (ls : Array Slot), f_X10_through_61 F sRo p1 p2 p3 k27 x5 x6 sMn sDr sDw = some res → va_P D vwCl (wMn K hMn rMn0 (hRo 99) rMn3 rMn4 rMn5 (hDr 99) rMn7 rMn8 rMn9 rMn10 sMn ++ wDr K hDr (hDw 99) rDr3 rDr4 sDr ++ wDw K hDw sDw ++ wRo K hRo sRo) H → va_D A (wMn K hMn rMn0 (hRo 99) rMn3 rMn4 rMn5 (hDr 99) rMn7 rMn8 rMn9 rMn10 sMn ++ wDr K hDr (hDw 99) rDr3 rDr4 sDr ++ wDw K hDw sDw ++ wRo K hRo sRo) → va_S A s.heap H locs → lv_has ls 7 [(0, .ref (hMn 99)), (1, .int p1), (2, .int p2), (3, .int p3), (5, .int x5), (6, .int x6)] → W p l e (headSpec wz_X10_through r_X10_through).room s m args below meth c H locs 0 0 Q (F0 m 61 ls []) := by
    intro k27 hk27 x5 x6 sMn sDr sDw H locs ls hf hP hD hS hl
    unfold f_X10_through_61 at hf
    obtain ⟨v9, ev9⟩ : ∃ z : Int32, z = x6 + (1 : Int32) := ⟨_, rfl⟩
    have hf := lz_s hf v9 ev9
    refine lv_iinc (v := v9) (lv' := [(6, .int v9), (0, .ref (hMn 99)), (1, .int p1), (2, .int p2), (3, .int p3), (5, .int x5)]) hx hb dX10_through_61 hl (k := 5) rfl (by rw [ev9]; rfl) (by decide) rfl (fun ls hl => ?_)
    refine lv_goto (tgt := 27) hx hb dX10_through_64 (by decide) ?_
    exact hk27 x5 v9 sMn sDr sDw H locs ls hf hP hD hS (lv_sub hl [1, 2, 3, 4, 5, 0] rfl)
  have w27 : ∀ (n : Nat), ∀ (x5 : Int32), ∀ (x6 : Int32), ∀ (sMn : MS), ∀ (sDr : MS), ∀ (sDw : MS), ∀ (H : Heap) (locs : List Loc) (ls : Array Slot), f_X10_through_27 F sRo p1 p2 p3 n x5 x6 sMn sDr sDw = some res → va_P D vwCl (wMn K hMn rMn0 (hRo 99) rMn3 rMn4 rMn5 (hDr 99) rMn7 rMn8 rMn9 rMn10 sMn ++ wDr K hDr (hDw 99) rDr3 rDr4 sDr ++ wDw K hDw sDw ++ wRo K hRo sRo) H → va_D A (wMn K hMn rMn0 (hRo 99) rMn3 rMn4 rMn5 (hDr 99) rMn7 rMn8 rMn9 rMn10 sMn ++ wDr K hDr (hDw 99) rDr3 rDr4 sDr ++ wDw K hDw sDw ++ wRo K hRo sRo) → va_S A s.heap H locs → lv_has ls 7 [(0, .ref (hMn 99)), (1, .int p1), (2, .int p2), (3, .int p3), (5, .int x5), (6, .int x6)] → W p l e (headSpec wz_X10_through r_X10_through).room s m args below meth c H locs 0 0 Q (F0 m 27 ls []) := by
    intro n
    induction n with
    | zero =>
      intro x5 x6 sMn sDr sDw H locs ls hf
      exact absurd (show none = some res from hf) (fun h => nomatch h)
    | succ n ih =>
      intro x5 x6 sMn sDr sDw H locs ls hf hP hD hS hl
      rw [f_X10_through_27] at hf
      refine lv_iload hx hb dX10_through_27 (lv_at hl 5 rfl) ?_
      refine lv_iload_n hx hb dX10_through_29 rfl (lv_at hl 3 rfl) ?_
      refine lv_icmp_ge (tgt := 67) hx hb dX10_through_30 (by decide) (fun c4 => ?_) (fun c4 => ?_)
      · have hf := it_t hf c4
        exact w67 x5 sMn sDr sDw H locs ls hf hP hD hS (lv_sub hl [0, 4] rfl)
      · have hf := it_f hf c4
        refine lv_aload_n hx hb dX10_through_33 rfl (lv_at hl 0 rfl) ?_
        refine va_get (D := D) (ci := 9) (v := .ref (hDr 99)) (C := RX10) (T := TX10) (N := 14) hx hb hts iX10 hown hK hP 0 (rwl (rwl (rwl o_Mn))) rfl 6 (by decide) (htl _ (mB2 _ (List.mem_of_getElem? (i := 7) rfl))) (fun _ h9 => h9) rfl dX10_through_34 ?_
        refine lv_aload_n hx hb dX10_through_37 rfl (lv_at hl 0 rfl) ?_
        refine va_get (D := D) (ci := 9) (v := .ref (hRo 99)) (C := RX10) (T := TX10) (N := 14) hx hb hts iX10 hown hK hP 0 (rwl (rwl (rwl o_Mn))) rfl 2 (by decide) (htl _ (mB1 _ (List.mem_of_getElem? (i := 18) rfl))) (fun _ h9 => h9) rfl dX10_through_38 ?_
        refine lv_iload_n hx hb dX10_through_41 rfl (lv_at hl 1 rfl) ?_
        refine lv_iload_n hx hb dX10_through_42 rfl (lv_at hl 2 rfl) ?_
        refine lv_iload hx hb dX10_through_43 (lv_at hl 5 rfl) ?_
        refine lv_iadd hx hb dX10_through_45 ?_
        refine lv_ldcw (v := (65537 : Int32)) hx hb hown (htl _ (mB60 _ (List.mem_of_getElem? (i := 11) rfl))) dX10_through_46 ?_
        refine lv_irem hx hb dX10_through_49 (by decide) ?_
        refine lv_topi (fun v5 ev5 => ?_)
        have hf := lz_s hf v5 ev5
        obtain ⟨o6, go6, hf⟩ := bd_s hf
        refine rk_Vi (wn := wMn K hMn rMn0 (hRo 99) rMn3 rMn4 rMn5 (hDr 99) rMn7 rMn8 rMn9 rMn10 sMn ++ wDr K hDr (hDw 99) rDr3 rDr4 o6.2.1 ++ wDw K hDw o6.2.2 ++ wRo K hRo sRo) [wMn K hMn rMn0 (hRo 99) rMn3 rMn4 rMn5 (hDr 99) rMn7 rMn8 rMn9 rMn10 sMn, wDr K hDr (hDw 99) rDr3 rDr4 sDr, wDw K hDw sDw, wRo K hRo sRo] [wDr K hDr (hDw 99) rDr3 rDr4 sDr, wDw K hDw sDw, wRo K hRo sRo] [wDr K hDr (hDw 99) rDr3 rDr4 o6.2.1, wDw K hDw o6.2.2, wRo K hRo sRo] [wMn K hMn rMn0 (hRo 99) rMn3 rMn4 rMn5 (hDr 99) rMn7 rMn8 rMn9 rMn10 sMn, wDr K hDr (hDw 99) rDr3 rDr4 o6.2.1, wDw K hDw o6.2.2, wRo K hRo sRo] (As := [.ref (hRo 99), .int p1, .int v5]) (rest := []) ⟨hx, hb, hml, hown, hts⟩ (c_X1_travelDrawn l D K F hDr rDr3 rDr4 hDw hRo H.size sDr sDw sRo p1 v5 o6 go6) (cwV 3 hts (gcV_X1_travelDrawn (mB60 _ (List.mem_of_getElem? (i := 12) rfl))) rfl rfl rfl hdV_X1_travelDrawn ⟨Nat.le_of_ble_eq_true rfl, Nat.le_of_ble_eq_true rfl⟩) hK hP hD hS hA [1, 2, 3] (fl4 _ _ _ _) rfl (by decide) (fl3 _ _ _) (fl3 _ _ _) rfl rfl (fl4 _ _ _ _) (va_recv hK hP (ci := 1) (q0 := (1 + 0)) rfl (rwl (rwl (rwr ln_Mn o_Dr)))) rfl hl.1 rfl (Nat.le_of_ble_eq_true rfl) dX10_through_50 ⟨Nat.zero_le _, Nat.zero_le _⟩ (fun H locs hP hD hS => ?_)
        have hP : va_P D vwCl (wMn K hMn rMn0 (hRo 99) rMn3 rMn4 rMn5 (hDr 99) rMn7 rMn8 rMn9 rMn10 sMn ++ wDr K hDr (hDw 99) rDr3 rDr4 o6.2.1 ++ wDw K hDw o6.2.2 ++ wRo K hRo sRo) H := hP
        have hD : va_D A (wMn K hMn rMn0 (hRo 99) rMn3 rMn4 rMn5 (hDr 99) rMn7 rMn8 rMn9 rMn10 sMn ++ wDr K hDr (hDw 99) rDr3 rDr4 o6.2.1 ++ wDw K hDw o6.2.2 ++ wRo K hRo sRo) := hD
        refine lv_bipush (v := (-2 : Int32)) hx hb dX10_through_53 (by decide) ?_
        refine lv_icmp_eq (tgt := 61) hx hb dX10_through_55 (by decide) (fun c7 => ?_) (fun c7 => ?_)
        · have hf := it_t hf c7
          exact w61 (f_X10_through_27 F sRo p1 p2 p3 n) ih x5 x6 sMn o6.2.1 o6.2.2 H locs ls hf hP hD hS (lv_sub hl [0, 1, 2, 3, 4, 5] rfl)
        · have hf := it_f hf c7
          obtain ⟨v8, ev8⟩ : ∃ z : Int32, z = x5 + (1 : Int32) := ⟨_, rfl⟩
          have hf := lz_s hf v8 ev8
          refine lv_iinc (v := v8) (lv' := [(5, .int v8), (0, .ref (hMn 99)), (1, .int p1), (2, .int p2), (3, .int p3), (6, .int x6)]) hx hb dX10_through_58 hl (k := 4) rfl (by rw [ev8]; rfl) (by decide) rfl (fun ls hl => ?_)
          exact w61 (f_X10_through_27 F sRo p1 p2 p3 n) ih v8 x6 sMn o6.2.1 o6.2.2 H locs ls hf hP hD hS (lv_sub hl [1, 2, 3, 4, 0, 5] rfl)
  have hen : entryFrame m args 7 = entryFrame m (([.ref (hMn 99), .int p1, .int p2, .int p3] : List Value).toArray) 7 := by rw [hargs]
  have hl := lv_entry ([.ref (hMn 99), .int p1, .int p2, .int p3]) (n := 7) (Nat.le_of_ble_eq_true rfl)
  rw [hen, lg_entry_eq]
  generalize (lg_sl ([.ref (hMn 99), .int p1, .int p2, .int p3]) ++ List.replicate (7 - (lg_sl ([.ref (hMn 99), .int p1, .int p2, .int p3])).length) Slot.unset).toArray = ls at hl ⊢
  have hl : lv_has ls 7 [(0, .ref (hMn 99)), (1, .int p1), (2, .int p2), (3, .int p3)] := hl
  unfold f_X10_through at hf
  obtain ⟨H, hHe⟩ : ∃ z, z = s.heap := ⟨_, rfl⟩
  obtain ⟨locs, hLe⟩ : ∃ z : List Loc, z = [] := ⟨_, rfl⟩
  rw [← hLe]
  have hS : va_S A s.heap H locs := by rw [hHe, hLe]; exact hS
  have hP : va_P D vwCl (wMn K hMn rMn0 (hRo 99) rMn3 rMn4 rMn5 (hDr 99) rMn7 rMn8 rMn9 rMn10 sMn ++ wDr K hDr (hDw 99) rDr3 rDr4 sDr ++ wDw K hDw sDw ++ wRo K hRo sRo) H := by rw [hHe]; exact hP
  have hgo : W p l e (headSpec wz_X10_through r_X10_through).room s m args below meth c H locs 0 0 Q (F0 m 0 ls []) := by
    refine lv_aload_n hx hb dX10_through_0 rfl (lv_at hl 0 rfl) ?_
    refine lv_iload_n hx hb dX10_through_1 rfl (lv_at hl 1 rfl) ?_
    refine lv_iload_n hx hb dX10_through_2 rfl (lv_at hl 2 rfl) ?_
    refine lv_iload_n hx hb dX10_through_3 rfl (lv_at hl 3 rfl) ?_
    obtain ⟨o1, go1, hf⟩ := bd_s hf
    refine ro_Vi (As := [.int p1, .int p2, .int p3]) (rest := []) ⟨hx, hb, hml, hown, hts⟩ (c_X10_whyNoRuns l D K F hMn rMn0 rMn3 rMn4 rMn5 (hDr 99) rMn7 rMn8 rMn9 rMn10 hRo sMn sRo p1 p2 p3 o1 go1) (cwV 3 hts (gcV_X10_whyNoRuns (mB60 _ (List.mem_of_getElem? (i := 4) rfl))) rfl rfl rfl hdV_X10_whyNoRuns ⟨Nat.le_of_ble_eq_true rfl, Nat.le_of_ble_eq_true rfl⟩) hK hP hS (va_PL (cs := [wMn K hMn rMn0 (hRo 99) rMn3 rMn4 rMn5 (hDr 99) rMn7 rMn8 rMn9 rMn10 sMn, wDr K hDr (hDw 99) rDr3 rDr4 sDr, wDw K hDw sDw, wRo K hRo sRo]) (cc := [wMn K hMn rMn0 (hRo 99) rMn3 rMn4 rMn5 (hDr 99) rMn7 rMn8 rMn9 rMn10 sMn, wRo K hRo sRo]) hP (fl4 _ _ _ _) [0, 3] rfl (fl2 _ _)) (va_recv hK hP (ci := 9) (q0 := 0) rfl (rwl (rwl (rwl o_Mn)))) rfl hl.1 rfl (Nat.le_of_ble_eq_true rfl) dX10_through_4 ⟨Nat.zero_le _, Nat.zero_le _⟩ (fun H locs hP hS => ?_)
    refine lv_istore (lv' := [(4, .int o1), (0, .ref (hMn 99)), (1, .int p1), (2, .int p2), (3, .int p3)]) hx hb dX10_through_7 hl (by decide) rfl (fun ls hl => ?_)
    refine lv_iload hx hb dX10_through_9 (lv_at hl 0 rfl) ?_
    refine lv_if_eq (tgt := 21) hx hb dX10_through_11 (by decide) (fun c2 => ?_) (fun c2 => ?_)
    · have hf := it_t hf c2
      refine lv_iconst (v := (0 : Int32)) hx hb dX10_through_21 (by decide) ?_
      refine lv_istore (lv' := [(5, .int (0 : Int32)), (4, .int o1), (0, .ref (hMn 99)), (1, .int p1), (2, .int p2), (3, .int p3)]) hx hb dX10_through_22 hl (by decide) rfl (fun ls hl => ?_)
      refine lv_iconst (v := (0 : Int32)) hx hb dX10_through_24 (by decide) ?_
      refine lv_istore (lv' := [(6, .int (0 : Int32)), (5, .int (0 : Int32)), (4, .int o1), (0, .ref (hMn 99)), (1, .int p1), (2, .int p2), (3, .int p3)]) hx hb dX10_through_25 hl (by decide) rfl (fun ls hl => ?_)
      exact w27 F (0 : Int32) (0 : Int32) sMn sDr sDw H locs ls hf hP hD hS (lv_sub hl [3, 4, 5, 6, 1, 0] rfl)
    · have hf := it_f hf c2
      refine lv_aload_n hx hb dX10_through_14 rfl (lv_at hl 1 rfl) ?_
      refine lv_iload hx hb dX10_through_15 (lv_at hl 0 rfl) ?_
      obtain ⟨o3, go3, hf⟩ := bd_s hf
      refine rk_Vi (wn := wMn K hMn rMn0 (hRo 99) rMn3 rMn4 rMn5 (hDr 99) rMn7 rMn8 rMn9 rMn10 o3.2 ++ wDr K hDr (hDw 99) rDr3 rDr4 sDr ++ wDw K hDw sDw ++ wRo K hRo sRo) [wMn K hMn rMn0 (hRo 99) rMn3 rMn4 rMn5 (hDr 99) rMn7 rMn8 rMn9 rMn10 sMn, wDr K hDr (hDw 99) rDr3 rDr4 sDr, wDw K hDw sDw, wRo K hRo sRo] [wMn K hMn rMn0 (hRo 99) rMn3 rMn4 rMn5 (hDr 99) rMn7 rMn8 rMn9 rMn10 sMn] [wMn K hMn rMn0 (hRo 99) rMn3 rMn4 rMn5 (hDr 99) rMn7 rMn8 rMn9 rMn10 o3.2] [wMn K hMn rMn0 (hRo 99) rMn3 rMn4 rMn5 (hDr 99) rMn7 rMn8 rMn9 rMn10 o3.2, wDr K hDr (hDw 99) rDr3 rDr4 sDr, wDw K hDw sDw, wRo K hRo sRo] (As := [.int o1]) (rest := []) ⟨hx, hb, hml, hown, hts⟩ (c_X10_refuse l D K F hMn rMn0 (hRo 99) rMn3 rMn4 rMn5 (hDr 99) rMn7 rMn8 rMn9 rMn10 H.size sMn o1 o3 go3) (cwV 1 hts (gcV_X10_refuse (mB7 _ (List.mem_of_getElem? (i := 18) rfl))) rfl rfl rfl hdV_X10_refuse ⟨Nat.le_of_ble_eq_true rfl, Nat.le_of_ble_eq_true rfl⟩) hK hP hD hS hA [0] (fl4 _ _ _ _) rfl (by decide) (fl1 _) (fl1 _) rfl rfl (fl4 _ _ _ _) (va_recv hK hP (ci := 9) (q0 := 0) rfl (rwl (rwl (rwl o_Mn)))) rfl hl.1 rfl (Nat.le_of_ble_eq_true rfl) dX10_through_17 ⟨Nat.zero_le _, Nat.zero_le _⟩ (fun H locs hP hD hS => ?_)
      have hP : va_P D vwCl (wMn K hMn rMn0 (hRo 99) rMn3 rMn4 rMn5 (hDr 99) rMn7 rMn8 rMn9 rMn10 o3.2 ++ wDr K hDr (hDw 99) rDr3 rDr4 sDr ++ wDw K hDw sDw ++ wRo K hRo sRo) H := hP
      have hD : va_D A (wMn K hMn rMn0 (hRo 99) rMn3 rMn4 rMn5 (hDr 99) rMn7 rMn8 rMn9 rMn10 o3.2 ++ wDr K hDr (hDw 99) rDr3 rDr4 sDr ++ wDw K hDw sDw ++ wRo K hRo sRo) := hD
      have e9 := Option.some.inj hf
      rw [hQ]
      exact W.iret (v := o3.1) hx hb hr (fun t ht hW => ⟨⟨o3.1, (0, o3.2, sDr, sDw), rfl, ⟨pr1 e9, pr2 e9⟩, ⟨by rw [ht]; exact hP, va_K.moved hW.alike hK, hD⟩⟩, hS.F ht⟩) hS.2.2 dX10_through_20
  rw [hHe] at hgo
  exact hgo

def wz_X10_beats : List Cond := .code yX10_beats cX10_beats 10 (some .int) :: wsL_law
abbrev r_X10_beats : Room := { frames := 5, cells := 0, slots := 0, locals := 121 }
set_option maxHeartbeats 4000000 in
set_option maxRecDepth 100000 in
theorem c_X10_beats (l : Launch) (D : va_G) (K : Nat → ClassId) (F : Nat) (hMn : Nat → Nat) (rMn0 : Nat) (rMn3 : Nat) (rMn4 : Nat) (rMn5 : Nat) (rMn7 : Nat) (rMn8 : Nat) (rMn9 : Nat) (rMn10 : Nat) (hDr : Nat → Nat) (rDr3 : Nat) (rDr4 : Nat) (hDw : Nat → Nat) (hRo : Nat → Nat) (sz : Nat) (sMn : MS) (sDr : MS) (sDw : MS) (sRo : MS) (p1 : Int32) (p2 : Int32) (p3 : Int32) (p4 : Int32) (res : Int32 × Nat × MS × MS × MS) (hf : f_X10_beats F sRo p1 p2 p3 p4 sMn sDr sDw = some res) : Met l yX10_beats wz_X10_beats r_X10_beats (va_Pc [.ref (hMn 99), .int p1, .int p2, .int p3, .int p4] (PW D K (wMn K hMn rMn0 (hRo 99) rMn3 rMn4 rMn5 (hDr 99) rMn7 rMn8 rMn9 rMn10 sMn ++ wDr K hDr (hDw 99) rDr3 rDr4 sDr ++ wDw K hDw sDw ++ wRo K hRo sRo) sz)) (va_Qi (fun r u => r = res.1 ∧ u = res.2) (fun u t => BW D K (va_A (wMn K hMn rMn0 (hRo 99) rMn3 rMn4 rMn5 (hDr 99) rMn7 rMn8 rMn9 rMn10 sMn ++ wDr K hDr (hDw 99) rDr3 rDr4 sDr ++ wDw K hDw sDw ++ wRo K hRo sRo) sz) (match u.1 with | _ => wMn K hMn rMn0 (hRo 99) rMn3 rMn4 rMn5 (hDr 99) rMn7 rMn8 rMn9 rMn10 u.2.1 ++ wDr K hDr (hDw 99) rDr3 rDr4 u.2.2.1 ++ wDw K hDw u.2.2.2 ++ wRo K hRo sRo) t) (va_A (wMn K hMn rMn0 (hRo 99) rMn3 rMn4 rMn5 (hDr 99) rMn7 rMn8 rMn9 rMn10 sMn ++ wDr K hDr (hDw 99) rDr3 rDr4 sDr ++ wDw K hDw sDw ++ wRo K hRo sRo) sz)) 0 0 (va_A (wMn K hMn rMn0 (hRo 99) rMn3 rMn4 rMn5 (hDr 99) rMn7 rMn8 rMn9 rMn10 sMn ++ wDr K hDr (hDw 99) rDr3 rDr4 sDr ++ wDw K hDw sDw ++ wRo K hRo sRo) sz) := by
  refine Met.ofW (cc := cX10_beats) (maxL := 10) (ret := (some .int)) (by decide) rfl ?_
  intro p e s m args below meth c s₁ B hml hv
  obtain ⟨hargs, hsz, hP, hK, hD0⟩ := hv
  have hx := B.exec
  have hb := B.bytes
  have hr := B.returns
  have hts := atoms_spec (ws := wz_X10_beats) B.pre
  have htl : ∀ w ∈ wsL_law, w.before args s = true := fun w h => hts w (List.mem_cons_of_mem _ h)
  have hown : s.vm.findClass RX10 = some m.cls := findClass_of_methodNamed B.named
  have hlocks := B.notSynchronized
  subst hsz
  have hD := hD0.self (sz := s.heap.size)
  generalize hAe : va_A (wMn K hMn rMn0 (hRo 99) rMn3 rMn4 rMn5 (hDr 99) rMn7 rMn8 rMn9 rMn10 sMn ++ wDr K hDr (hDw 99) rDr3 rDr4 sDr ++ wDw K hDw sDw ++ wRo K hRo sRo) s.heap.size = A at hD ⊢
  have hA : ∀ q : Nat, s.heap.size ≤ q → A q := fun q h => by rw [← hAe]; exact Or.inr h
  have hS : va_S A s.heap s.heap [] := va_S.rf
  have iX10 : ∀ w ∈ wsX100, w ∈ wz_X10_beats := fun w h => List.mem_cons_of_mem _ (inlX10 w h)
  suffices hgo : ∀ Q : State → Prop, Q = MQ below (va_Qi (fun r u => r = res.1 ∧ u = res.2) (fun u t => BW D K A (match u.1 with | _ => wMn K hMn rMn0 (hRo 99) rMn3 rMn4 rMn5 (hDr 99) rMn7 rMn8 rMn9 rMn10 u.2.1 ++ wDr K hDr (hDw 99) rDr3 rDr4 u.2.2.1 ++ wDw K hDw u.2.2.2 ++ wRo K hRo sRo) t) A) args s 0 0 A → W p l e (headSpec wz_X10_beats r_X10_beats).room s m args below meth c s.heap [] 0 0 Q (entryFrame m args 10) from hgo _ rfl
  intro Q hQ
  have w120 : ∀ (x6 : Int32), ∀ (sMn : MS), ∀ (sDr : MS), ∀ (sDw : MS), ∀ (H : Heap) (locs : List Loc) (ls : Array Slot), f_X10_beats_120 F sRo p1 p2 p3 p4 x6 sMn sDr sDw = some res → va_P D vwCl (wMn K hMn rMn0 (hRo 99) rMn3 rMn4 rMn5 (hDr 99) rMn7 rMn8 rMn9 rMn10 sMn ++ wDr K hDr (hDw 99) rDr3 rDr4 sDr ++ wDw K hDw sDw ++ wRo K hRo sRo) H → va_D A (wMn K hMn rMn0 (hRo 99) rMn3 rMn4 rMn5 (hDr 99) rMn7 rMn8 rMn9 rMn10 sMn ++ wDr K hDr (hDw 99) rDr3 rDr4 sDr ++ wDw K hDw sDw ++ wRo K hRo sRo) → va_S A s.heap H locs → lv_has ls 10 [(0, .ref (hMn 99)), (6, .int x6)] → W p l e (headSpec wz_X10_beats r_X10_beats).room s m args below meth c H locs 0 0 Q (F0 m 120 ls []) := by
    intro x6 sMn sDr sDw H locs ls hf hP hD hS hl
    unfold f_X10_beats_120 at hf
    refine lv_aload_n hx hb dX10_beats_120 rfl (lv_at hl 0 rfl) ?_
    refine lv_iload hx hb dX10_beats_121 (lv_at hl 1 rfl) ?_
    obtain ⟨o16, go16, hf⟩ := bd_s hf
    refine rk_Vi (wn := wMn K hMn rMn0 (hRo 99) rMn3 rMn4 rMn5 (hDr 99) rMn7 rMn8 rMn9 rMn10 o16.2 ++ wDr K hDr (hDw 99) rDr3 rDr4 sDr ++ wDw K hDw sDw ++ wRo K hRo sRo) [wMn K hMn rMn0 (hRo 99) rMn3 rMn4 rMn5 (hDr 99) rMn7 rMn8 rMn9 rMn10 sMn, wDr K hDr (hDw 99) rDr3 rDr4 sDr, wDw K hDw sDw, wRo K hRo sRo] [wMn K hMn rMn0 (hRo 99) rMn3 rMn4 rMn5 (hDr 99) rMn7 rMn8 rMn9 rMn10 sMn] [wMn K hMn rMn0 (hRo 99) rMn3 rMn4 rMn5 (hDr 99) rMn7 rMn8 rMn9 rMn10 o16.2] [wMn K hMn rMn0 (hRo 99) rMn3 rMn4 rMn5 (hDr 99) rMn7 rMn8 rMn9 rMn10 o16.2, wDr K hDr (hDw 99) rDr3 rDr4 sDr, wDw K hDw sDw, wRo K hRo sRo] (As := [.int x6]) (rest := []) ⟨hx, hb, hml, hown, hts⟩ (c_X10_accept l D K F hMn rMn0 (hRo 99) rMn3 rMn4 rMn5 (hDr 99) rMn7 rMn8 rMn9 rMn10 H.size sMn x6 o16 go16) (cwV 1 hts (gcV_X10_accept (mB17 _ (List.mem_of_getElem? (i := 14) rfl))) rfl rfl rfl hdV_X10_accept ⟨Nat.le_of_ble_eq_true rfl, Nat.le_of_ble_eq_true rfl⟩) hK hP hD hS hA [0] (fl4 _ _ _ _) rfl (by decide) (fl1 _) (fl1 _) rfl rfl (fl4 _ _ _ _) (va_recv hK hP (ci := 9) (q0 := 0) rfl (rwl (rwl (rwl o_Mn)))) rfl hl.1 rfl (Nat.le_of_ble_eq_true rfl) dX10_beats_123 ⟨Nat.zero_le _, Nat.zero_le _⟩ (fun H locs hP hD hS => ?_)
    have hP : va_P D vwCl (wMn K hMn rMn0 (hRo 99) rMn3 rMn4 rMn5 (hDr 99) rMn7 rMn8 rMn9 rMn10 o16.2 ++ wDr K hDr (hDw 99) rDr3 rDr4 sDr ++ wDw K hDw sDw ++ wRo K hRo sRo) H := hP
    have hD : va_D A (wMn K hMn rMn0 (hRo 99) rMn3 rMn4 rMn5 (hDr 99) rMn7 rMn8 rMn9 rMn10 o16.2 ++ wDr K hDr (hDw 99) rDr3 rDr4 sDr ++ wDw K hDw sDw ++ wRo K hRo sRo) := hD
    have e9 := Option.some.inj hf
    rw [hQ]
    exact W.iret (v := o16.1) hx hb hr (fun t ht hW => ⟨⟨o16.1, (0, o16.2, sDr, sDw), rfl, ⟨pr1 e9, pr2 e9⟩, ⟨by rw [ht]; exact hP, va_K.moved hW.alike hK, hD⟩⟩, hS.F ht⟩) hS.2.2 dX10_beats_126
  have w114 : ∀ (k39 : Int32 → Int32 → MS → MS → MS → Option (Int32 × Nat × MS × MS × MS)), (∀ (x6 : Int32), ∀ (x7 : Int32), ∀ (sMn : MS), ∀ (sDr : MS), ∀ (sDw : MS), ∀ (H : Heap) (locs : List Loc) (ls : Array Slot), k39 x6 x7 sMn sDr sDw = some res → va_P D vwCl (wMn K hMn rMn0 (hRo 99) rMn3 rMn4 rMn5 (hDr 99) rMn7 rMn8 rMn9 rMn10 sMn ++ wDr K hDr (hDw 99) rDr3 rDr4 sDr ++ wDw K hDw sDw ++ wRo K hRo sRo) H → va_D A (wMn K hMn rMn0 (hRo 99) rMn3 rMn4 rMn5 (hDr 99) rMn7 rMn8 rMn9 rMn10 sMn ++ wDr K hDr (hDw 99) rDr3 rDr4 sDr ++ wDw K hDw sDw ++ wRo K hRo sRo) → va_S A s.heap H locs → lv_has ls 10 [(0, .ref (hMn 99)), (1, .int p1), (2, .int p2), (3, .int p3), (4, .int p4), (6, .int x6), (7, .int x7)] → W p l e (headSpec wz_X10_beats r_X10_beats).room s m args below meth c H locs 0 0 Q (F0 m 39 ls [])) → ∀ (x6 : Int32), ∀ (x7 : Int32), ∀ (sMn : MS), ∀ (sDr : MS), ∀ (sDw : MS), ∀ (H : Heap) (locs : List Loc) (ls : Array Slot), f_X10_beats_114 F sRo p1 p2 p3 p4 k39 x6 x7 sMn sDr sDw = some res → va_P D vwCl (wMn K hMn rMn0 (hRo 99) rMn3 rMn4 rMn5 (hDr 99) rMn7 rMn8 rMn9 rMn10 sMn ++ wDr K hDr (hDw 99) rDr3 rDr4 sDr ++ wDw K hDw sDw ++ wRo K hRo sRo) H → va_D A (wMn K hMn rMn0 (hRo 99) rMn3 rMn4 rMn5 (hDr 99) rMn7 rMn8 rMn9 rMn10 sMn ++ wDr K hDr (hDw 99) rDr3 rDr4 sDr ++ wDw K hDw sDw ++ wRo K hRo sRo) → va_S A s.heap H locs → lv_has ls 10 [(0, .ref (hMn 99)), (1, .int p1), (2, .int p2), (3, .int p3), (4, .int p4), (6, .int x6), (7, .int x7)] → W p l e (headSpec wz_X10_beats r_X10_beats).room s m args below meth c H locs 0 0 Q (F0 m 114 ls []) := by
    intro k39 hk39 x6 x7 sMn sDr sDw H locs ls hf hP hD hS hl
    unfold f_X10_beats_114 at hf
    obtain ⟨v15, ev15⟩ : ∃ z : Int32, z = x7 + (1 : Int32) := ⟨_, rfl⟩
    have hf := lz_s hf v15 ev15
    refine lv_iinc (v := v15) (lv' := [(7, .int v15), (0, .ref (hMn 99)), (1, .int p1), (2, .int p2), (3, .int p3), (4, .int p4), (6, .int x6)]) hx hb dX10_beats_114 hl (k := 6) rfl (by rw [ev15]; rfl) (by decide) rfl (fun ls hl => ?_)
    refine lv_goto (tgt := 39) hx hb dX10_beats_117 (by decide) ?_
    exact hk39 x6 v15 sMn sDr sDw H locs ls hf hP hD hS (lv_sub hl [1, 2, 3, 4, 5, 6, 0] rfl)
  have w111 : ∀ (k39 : Int32 → Int32 → MS → MS → MS → Option (Int32 × Nat × MS × MS × MS)), (∀ (x6 : Int32), ∀ (x7 : Int32), ∀ (sMn : MS), ∀ (sDr : MS), ∀ (sDw : MS), ∀ (H : Heap) (locs : List Loc) (ls : Array Slot), k39 x6 x7 sMn sDr sDw = some res → va_P D vwCl (wMn K hMn rMn0 (hRo 99) rMn3 rMn4 rMn5 (hDr 99) rMn7 rMn8 rMn9 rMn10 sMn ++ wDr K hDr (hDw 99) rDr3 rDr4 sDr ++ wDw K hDw sDw ++ wRo K hRo sRo) H → va_D A (wMn K hMn rMn0 (hRo 99) rMn3 rMn4 rMn5 (hDr 99) rMn7 rMn8 rMn9 rMn10 sMn ++ wDr K hDr (hDw 99) rDr3 rDr4 sDr ++ wDw K hDw sDw ++ wRo K hRo sRo) → va_S A s.heap H locs → lv_has ls 10 [(0, .ref (hMn 99)), (1, .int p1), (2, .int p2), (3, .int p3), (4, .int p4), (6, .int x6), (7, .int x7)] → W p l e (headSpec wz_X10_beats r_X10_beats).room s m args below meth c H locs 0 0 Q (F0 m 39 ls [])) → ∀ (x6 : Int32), ∀ (x7 : Int32), ∀ (sMn : MS), ∀ (sDr : MS), ∀ (sDw : MS), ∀ (H : Heap) (locs : List Loc) (ls : Array Slot), f_X10_beats_111 F sRo p1 p2 p3 p4 k39 x6 x7 sMn sDr sDw = some res → va_P D vwCl (wMn K hMn rMn0 (hRo 99) rMn3 rMn4 rMn5 (hDr 99) rMn7 rMn8 rMn9 rMn10 sMn ++ wDr K hDr (hDw 99) rDr3 rDr4 sDr ++ wDw K hDw sDw ++ wRo K hRo sRo) H → va_D A (wMn K hMn rMn0 (hRo 99) rMn3 rMn4 rMn5 (hDr 99) rMn7 rMn8 rMn9 rMn10 sMn ++ wDr K hDr (hDw 99) rDr3 rDr4 sDr ++ wDw K hDw sDw ++ wRo K hRo sRo) → va_S A s.heap H locs → lv_has ls 10 [(0, .ref (hMn 99)), (1, .int p1), (2, .int p2), (3, .int p3), (4, .int p4), (6, .int x6), (7, .int x7)] → W p l e (headSpec wz_X10_beats r_X10_beats).room s m args below meth c H locs 0 0 Q (F0 m 111 ls []) := by
    intro k39 hk39 x6 x7 sMn sDr sDw H locs ls hf hP hD hS hl
    unfold f_X10_beats_111 at hf
    obtain ⟨v14, ev14⟩ : ∃ z : Int32, z = x6 + (1 : Int32) := ⟨_, rfl⟩
    have hf := lz_s hf v14 ev14
    refine lv_iinc (v := v14) (lv' := [(6, .int v14), (0, .ref (hMn 99)), (1, .int p1), (2, .int p2), (3, .int p3), (4, .int p4), (7, .int x7)]) hx hb dX10_beats_111 hl (k := 5) rfl (by rw [ev14]; rfl) (by decide) rfl (fun ls hl => ?_)
    exact w114 k39 hk39 v14 x7 sMn sDr sDw H locs ls hf hP hD hS (lv_sub hl [1, 2, 3, 4, 5, 0, 6] rfl)
  have w39 : ∀ (n : Nat), ∀ (x6 : Int32), ∀ (x7 : Int32), ∀ (sMn : MS), ∀ (sDr : MS), ∀ (sDw : MS), ∀ (H : Heap) (locs : List Loc) (ls : Array Slot), f_X10_beats_39 F sRo p1 p2 p3 p4 n x6 x7 sMn sDr sDw = some res → va_P D vwCl (wMn K hMn rMn0 (hRo 99) rMn3 rMn4 rMn5 (hDr 99) rMn7 rMn8 rMn9 rMn10 sMn ++ wDr K hDr (hDw 99) rDr3 rDr4 sDr ++ wDw K hDw sDw ++ wRo K hRo sRo) H → va_D A (wMn K hMn rMn0 (hRo 99) rMn3 rMn4 rMn5 (hDr 99) rMn7 rMn8 rMn9 rMn10 sMn ++ wDr K hDr (hDw 99) rDr3 rDr4 sDr ++ wDw K hDw sDw ++ wRo K hRo sRo) → va_S A s.heap H locs → lv_has ls 10 [(0, .ref (hMn 99)), (1, .int p1), (2, .int p2), (3, .int p3), (4, .int p4), (6, .int x6), (7, .int x7)] → W p l e (headSpec wz_X10_beats r_X10_beats).room s m args below meth c H locs 0 0 Q (F0 m 39 ls []) := by
    intro n
    induction n with
    | zero =>
      intro x6 x7 sMn sDr sDw H locs ls hf
      exact absurd (show none = some res from hf) (fun h => nomatch h)
    | succ n ih =>
      intro x6 x7 sMn sDr sDw H locs ls hf hP hD hS hl
      rw [f_X10_beats_39] at hf
      refine lv_iload hx hb dX10_beats_39 (lv_at hl 6 rfl) ?_
      refine lv_iload hx hb dX10_beats_41 (lv_at hl 4 rfl) ?_
      refine lv_icmp_ge (tgt := 120) hx hb dX10_beats_43 (by decide) (fun c6 => ?_) (fun c6 => ?_)
      · have hf := it_t hf c6
        exact w120 x6 sMn sDr sDw H locs ls hf hP hD hS (lv_sub hl [0, 5] rfl)
      · have hf := it_f hf c6
        refine lv_aload_n hx hb dX10_beats_46 rfl (lv_at hl 0 rfl) ?_
        refine va_get (D := D) (ci := 9) (v := .ref (hDr 99)) (C := RX10) (T := TX10) (N := 14) hx hb hts iX10 hown hK hP 0 (rwl (rwl (rwl o_Mn))) rfl 6 (by decide) (htl _ (mB2 _ (List.mem_of_getElem? (i := 7) rfl))) (fun _ h9 => h9) rfl dX10_beats_47 ?_
        refine lv_aload_n hx hb dX10_beats_50 rfl (lv_at hl 0 rfl) ?_
        refine va_get (D := D) (ci := 9) (v := .ref (hRo 99)) (C := RX10) (T := TX10) (N := 14) hx hb hts iX10 hown hK hP 0 (rwl (rwl (rwl o_Mn))) rfl 2 (by decide) (htl _ (mB1 _ (List.mem_of_getElem? (i := 18) rfl))) (fun _ h9 => h9) rfl dX10_beats_51 ?_
        refine lv_iload_n hx hb dX10_beats_54 rfl (lv_at hl 1 rfl) ?_
        refine lv_iload_n hx hb dX10_beats_55 rfl (lv_at hl 3 rfl) ?_
        refine lv_iload hx hb dX10_beats_56 (lv_at hl 6 rfl) ?_
        refine lv_iadd hx hb dX10_beats_58 ?_
        refine lv_ldcw (v := (65537 : Int32)) hx hb hown (htl _ (mB60 _ (List.mem_of_getElem? (i := 11) rfl))) dX10_beats_59 ?_
        refine lv_irem hx hb dX10_beats_62 (by decide) ?_
        refine lv_topi (fun v7 ev7 => ?_)
        have hf := lz_s hf v7 ev7
        obtain ⟨o8, go8, hf⟩ := bd_s hf
        refine rk_Vi (wn := wMn K hMn rMn0 (hRo 99) rMn3 rMn4 rMn5 (hDr 99) rMn7 rMn8 rMn9 rMn10 sMn ++ wDr K hDr (hDw 99) rDr3 rDr4 o8.2.1 ++ wDw K hDw o8.2.2 ++ wRo K hRo sRo) [wMn K hMn rMn0 (hRo 99) rMn3 rMn4 rMn5 (hDr 99) rMn7 rMn8 rMn9 rMn10 sMn, wDr K hDr (hDw 99) rDr3 rDr4 sDr, wDw K hDw sDw, wRo K hRo sRo] [wDr K hDr (hDw 99) rDr3 rDr4 sDr, wDw K hDw sDw, wRo K hRo sRo] [wDr K hDr (hDw 99) rDr3 rDr4 o8.2.1, wDw K hDw o8.2.2, wRo K hRo sRo] [wMn K hMn rMn0 (hRo 99) rMn3 rMn4 rMn5 (hDr 99) rMn7 rMn8 rMn9 rMn10 sMn, wDr K hDr (hDw 99) rDr3 rDr4 o8.2.1, wDw K hDw o8.2.2, wRo K hRo sRo] (As := [.ref (hRo 99), .int p1, .int v7]) (rest := []) ⟨hx, hb, hml, hown, hts⟩ (c_X1_travelDrawn l D K F hDr rDr3 rDr4 hDw hRo H.size sDr sDw sRo p1 v7 o8 go8) (cwV 3 hts (gcV_X1_travelDrawn (mB60 _ (List.mem_of_getElem? (i := 12) rfl))) rfl rfl rfl hdV_X1_travelDrawn ⟨Nat.le_of_ble_eq_true rfl, Nat.le_of_ble_eq_true rfl⟩) hK hP hD hS hA [1, 2, 3] (fl4 _ _ _ _) rfl (by decide) (fl3 _ _ _) (fl3 _ _ _) rfl rfl (fl4 _ _ _ _) (va_recv hK hP (ci := 1) (q0 := (1 + 0)) rfl (rwl (rwl (rwr ln_Mn o_Dr)))) rfl hl.1 rfl (Nat.le_of_ble_eq_true rfl) dX10_beats_63 ⟨Nat.zero_le _, Nat.zero_le _⟩ (fun H locs hP hD hS => ?_)
        have hP : va_P D vwCl (wMn K hMn rMn0 (hRo 99) rMn3 rMn4 rMn5 (hDr 99) rMn7 rMn8 rMn9 rMn10 sMn ++ wDr K hDr (hDw 99) rDr3 rDr4 o8.2.1 ++ wDw K hDw o8.2.2 ++ wRo K hRo sRo) H := hP
        have hD : va_D A (wMn K hMn rMn0 (hRo 99) rMn3 rMn4 rMn5 (hDr 99) rMn7 rMn8 rMn9 rMn10 sMn ++ wDr K hDr (hDw 99) rDr3 rDr4 o8.2.1 ++ wDw K hDw o8.2.2 ++ wRo K hRo sRo) := hD
        refine lv_istore (lv' := [(8, .int o8.1), (0, .ref (hMn 99)), (1, .int p1), (2, .int p2), (3, .int p3), (4, .int p4), (6, .int x6), (7, .int x7)]) hx hb dX10_beats_66 hl (by decide) rfl (fun ls hl => ?_)
        refine lv_aload_n hx hb dX10_beats_68 rfl (lv_at hl 1 rfl) ?_
        refine va_get (D := D) (ci := 9) (v := .ref (hDr 99)) (C := RX10) (T := TX10) (N := 14) hx hb hts iX10 hown hK hP 0 (rwl (rwl (rwl o_Mn))) rfl 6 (by decide) (htl _ (mB2 _ (List.mem_of_getElem? (i := 7) rfl))) (fun _ h9 => h9) rfl dX10_beats_69 ?_
        refine lv_aload_n hx hb dX10_beats_72 rfl (lv_at hl 1 rfl) ?_
        refine va_get (D := D) (ci := 9) (v := .ref (hRo 99)) (C := RX10) (T := TX10) (N := 14) hx hb hts iX10 hown hK hP 0 (rwl (rwl (rwl o_Mn))) rfl 2 (by decide) (htl _ (mB1 _ (List.mem_of_getElem? (i := 18) rfl))) (fun _ h9 => h9) rfl dX10_beats_73 ?_
        refine lv_iload_n hx hb dX10_beats_76 rfl (lv_at hl 3 rfl) ?_
        refine lv_iload_n hx hb dX10_beats_77 rfl (lv_at hl 4 rfl) ?_
        refine lv_iload hx hb dX10_beats_78 (lv_at hl 7 rfl) ?_
        refine lv_iadd hx hb dX10_beats_80 ?_
        refine lv_ldcw (v := (65537 : Int32)) hx hb hown (htl _ (mB60 _ (List.mem_of_getElem? (i := 11) rfl))) dX10_beats_81 ?_
        refine lv_irem hx hb dX10_beats_84 (by decide) ?_
        refine lv_topi (fun v9 ev9 => ?_)
        have hf := lz_s hf v9 ev9
        obtain ⟨o10, go10, hf⟩ := bd_s hf
        refine rk_Vi (wn := wMn K hMn rMn0 (hRo 99) rMn3 rMn4 rMn5 (hDr 99) rMn7 rMn8 rMn9 rMn10 sMn ++ wDr K hDr (hDw 99) rDr3 rDr4 o10.2.1 ++ wDw K hDw o10.2.2 ++ wRo K hRo sRo) [wMn K hMn rMn0 (hRo 99) rMn3 rMn4 rMn5 (hDr 99) rMn7 rMn8 rMn9 rMn10 sMn, wDr K hDr (hDw 99) rDr3 rDr4 o8.2.1, wDw K hDw o8.2.2, wRo K hRo sRo] [wDr K hDr (hDw 99) rDr3 rDr4 o8.2.1, wDw K hDw o8.2.2, wRo K hRo sRo] [wDr K hDr (hDw 99) rDr3 rDr4 o10.2.1, wDw K hDw o10.2.2, wRo K hRo sRo] [wMn K hMn rMn0 (hRo 99) rMn3 rMn4 rMn5 (hDr 99) rMn7 rMn8 rMn9 rMn10 sMn, wDr K hDr (hDw 99) rDr3 rDr4 o10.2.1, wDw K hDw o10.2.2, wRo K hRo sRo] (As := [.ref (hRo 99), .int p2, .int v9]) (rest := []) ⟨hx, hb, hml, hown, hts⟩ (c_X1_travelDrawn l D K F hDr rDr3 rDr4 hDw hRo H.size o8.2.1 o8.2.2 sRo p2 v9 o10 go10) (cwV 3 hts (gcV_X1_travelDrawn (mB60 _ (List.mem_of_getElem? (i := 12) rfl))) rfl rfl rfl hdV_X1_travelDrawn ⟨Nat.le_of_ble_eq_true rfl, Nat.le_of_ble_eq_true rfl⟩) hK hP hD hS hA [1, 2, 3] (fl4 _ _ _ _) rfl (by decide) (fl3 _ _ _) (fl3 _ _ _) rfl rfl (fl4 _ _ _ _) (va_recv hK hP (ci := 1) (q0 := (1 + 0)) rfl (rwl (rwl (rwr ln_Mn o_Dr)))) rfl hl.1 rfl (Nat.le_of_ble_eq_true rfl) dX10_beats_85 ⟨Nat.zero_le _, Nat.zero_le _⟩ (fun H locs hP hD hS => ?_)
        have hP : va_P D vwCl (wMn K hMn rMn0 (hRo 99) rMn3 rMn4 rMn5 (hDr 99) rMn7 rMn8 rMn9 rMn10 sMn ++ wDr K hDr (hDw 99) rDr3 rDr4 o10.2.1 ++ wDw K hDw o10.2.2 ++ wRo K hRo sRo) H := hP
        have hD : va_D A (wMn K hMn rMn0 (hRo 99) rMn3 rMn4 rMn5 (hDr 99) rMn7 rMn8 rMn9 rMn10 sMn ++ wDr K hDr (hDw 99) rDr3 rDr4 o10.2.1 ++ wDw K hDw o10.2.2 ++ wRo K hRo sRo) := hD
        refine lv_istore (lv' := [(9, .int o10.1), (8, .int o8.1), (0, .ref (hMn 99)), (1, .int p1), (2, .int p2), (3, .int p3), (4, .int p4), (6, .int x6), (7, .int x7)]) hx hb dX10_beats_88 hl (by decide) rfl (fun ls hl => ?_)
        refine lv_iload hx hb dX10_beats_90 (lv_at hl 1 rfl) ?_
        refine lv_bipush (v := (-2 : Int32)) hx hb dX10_beats_92 (by decide) ?_
        refine lv_icmp_eq (tgt := 114) hx hb dX10_beats_94 (by decide) (fun c11 => ?_) (fun c11 => ?_)
        · have hf := it_t hf c11
          exact w114 (f_X10_beats_39 F sRo p1 p2 p3 p4 n) ih x6 x7 sMn o10.2.1 o10.2.2 H locs ls hf hP hD hS (lv_sub hl [2, 3, 4, 5, 6, 7, 8] rfl)
        · have hf := it_f hf c11
          refine lv_iload hx hb dX10_beats_97 (lv_at hl 0 rfl) ?_
          refine lv_bipush (v := (-2 : Int32)) hx hb dX10_beats_99 (by decide) ?_
          refine lv_icmp_eq (tgt := 111) hx hb dX10_beats_101 (by decide) (fun c12 => ?_) (fun c12 => ?_)
          · have hf := it_t hf c12
            exact w111 (f_X10_beats_39 F sRo p1 p2 p3 p4 n) ih x6 x7 sMn o10.2.1 o10.2.2 H locs ls hf hP hD hS (lv_sub hl [2, 3, 4, 5, 6, 7, 8] rfl)
          · have hf := it_f hf c12
            refine lv_iload hx hb dX10_beats_104 (lv_at hl 1 rfl) ?_
            refine lv_iload hx hb dX10_beats_106 (lv_at hl 0 rfl) ?_
            refine lv_icmp_ge (tgt := 114) hx hb dX10_beats_108 (by decide) (fun c13 => ?_) (fun c13 => ?_)
            · have hf := it_t hf c13
              exact w114 (f_X10_beats_39 F sRo p1 p2 p3 p4 n) ih x6 x7 sMn o10.2.1 o10.2.2 H locs ls hf hP hD hS (lv_sub hl [2, 3, 4, 5, 6, 7, 8] rfl)
            · have hf := it_f hf c13
              exact w111 (f_X10_beats_39 F sRo p1 p2 p3 p4 n) ih x6 x7 sMn o10.2.1 o10.2.2 H locs ls hf hP hD hS (lv_sub hl [2, 3, 4, 5, 6, 7, 8] rfl)
  have w19 : ∀ (y0 : Int32), ∀ (sMn : MS), ∀ (sDr : MS), ∀ (sDw : MS), ∀ (H : Heap) (locs : List Loc) (ls : Array Slot), f_X10_beats_19 F sRo p1 p2 p3 p4 y0 sMn sDr sDw = some res → va_P D vwCl (wMn K hMn rMn0 (hRo 99) rMn3 rMn4 rMn5 (hDr 99) rMn7 rMn8 rMn9 rMn10 sMn ++ wDr K hDr (hDw 99) rDr3 rDr4 sDr ++ wDw K hDw sDw ++ wRo K hRo sRo) H → va_D A (wMn K hMn rMn0 (hRo 99) rMn3 rMn4 rMn5 (hDr 99) rMn7 rMn8 rMn9 rMn10 sMn ++ wDr K hDr (hDw 99) rDr3 rDr4 sDr ++ wDw K hDw sDw ++ wRo K hRo sRo) → va_S A s.heap H locs → lv_has ls 10 [(0, .ref (hMn 99)), (1, .int p1), (2, .int p2), (3, .int p3), (4, .int p4)] → W p l e (headSpec wz_X10_beats r_X10_beats).room s m args below meth c H locs 0 0 Q (F0 m 19 ls [.int y0]) := by
    intro y0 sMn sDr sDw H locs ls hf hP hD hS hl
    unfold f_X10_beats_19 at hf
    refine lv_istore (lv' := [(5, .int y0), (0, .ref (hMn 99)), (1, .int p1), (2, .int p2), (3, .int p3), (4, .int p4)]) hx hb dX10_beats_19 hl (by decide) rfl (fun ls hl => ?_)
    refine lv_iload hx hb dX10_beats_21 (lv_at hl 0 rfl) ?_
    refine lv_if_eq (tgt := 33) hx hb dX10_beats_23 (by decide) (fun c4 => ?_) (fun c4 => ?_)
    · have hf := it_t hf c4
      refine lv_iconst (v := (0 : Int32)) hx hb dX10_beats_33 (by decide) ?_
      refine lv_istore (lv' := [(6, .int (0 : Int32)), (5, .int y0), (0, .ref (hMn 99)), (1, .int p1), (2, .int p2), (3, .int p3), (4, .int p4)]) hx hb dX10_beats_34 hl (by decide) rfl (fun ls hl => ?_)
      refine lv_iconst (v := (0 : Int32)) hx hb dX10_beats_36 (by decide) ?_
      refine lv_istore (lv' := [(7, .int (0 : Int32)), (6, .int (0 : Int32)), (5, .int y0), (0, .ref (hMn 99)), (1, .int p1), (2, .int p2), (3, .int p3), (4, .int p4)]) hx hb dX10_beats_37 hl (by decide) rfl (fun ls hl => ?_)
      exact w39 F (0 : Int32) (0 : Int32) sMn sDr sDw H locs ls hf hP hD hS (lv_sub hl [3, 4, 5, 6, 7, 1, 0] rfl)
    · have hf := it_f hf c4
      refine lv_aload_n hx hb dX10_beats_26 rfl (lv_at hl 1 rfl) ?_
      refine lv_iload hx hb dX10_beats_27 (lv_at hl 0 rfl) ?_
      obtain ⟨o5, go5, hf⟩ := bd_s hf
      refine rk_Vi (wn := wMn K hMn rMn0 (hRo 99) rMn3 rMn4 rMn5 (hDr 99) rMn7 rMn8 rMn9 rMn10 o5.2 ++ wDr K hDr (hDw 99) rDr3 rDr4 sDr ++ wDw K hDw sDw ++ wRo K hRo sRo) [wMn K hMn rMn0 (hRo 99) rMn3 rMn4 rMn5 (hDr 99) rMn7 rMn8 rMn9 rMn10 sMn, wDr K hDr (hDw 99) rDr3 rDr4 sDr, wDw K hDw sDw, wRo K hRo sRo] [wMn K hMn rMn0 (hRo 99) rMn3 rMn4 rMn5 (hDr 99) rMn7 rMn8 rMn9 rMn10 sMn] [wMn K hMn rMn0 (hRo 99) rMn3 rMn4 rMn5 (hDr 99) rMn7 rMn8 rMn9 rMn10 o5.2] [wMn K hMn rMn0 (hRo 99) rMn3 rMn4 rMn5 (hDr 99) rMn7 rMn8 rMn9 rMn10 o5.2, wDr K hDr (hDw 99) rDr3 rDr4 sDr, wDw K hDw sDw, wRo K hRo sRo] (As := [.int y0]) (rest := []) ⟨hx, hb, hml, hown, hts⟩ (c_X10_refuse l D K F hMn rMn0 (hRo 99) rMn3 rMn4 rMn5 (hDr 99) rMn7 rMn8 rMn9 rMn10 H.size sMn y0 o5 go5) (cwV 1 hts (gcV_X10_refuse (mB7 _ (List.mem_of_getElem? (i := 18) rfl))) rfl rfl rfl hdV_X10_refuse ⟨Nat.le_of_ble_eq_true rfl, Nat.le_of_ble_eq_true rfl⟩) hK hP hD hS hA [0] (fl4 _ _ _ _) rfl (by decide) (fl1 _) (fl1 _) rfl rfl (fl4 _ _ _ _) (va_recv hK hP (ci := 9) (q0 := 0) rfl (rwl (rwl (rwl o_Mn)))) rfl hl.1 rfl (Nat.le_of_ble_eq_true rfl) dX10_beats_29 ⟨Nat.zero_le _, Nat.zero_le _⟩ (fun H locs hP hD hS => ?_)
      have hP : va_P D vwCl (wMn K hMn rMn0 (hRo 99) rMn3 rMn4 rMn5 (hDr 99) rMn7 rMn8 rMn9 rMn10 o5.2 ++ wDr K hDr (hDw 99) rDr3 rDr4 sDr ++ wDw K hDw sDw ++ wRo K hRo sRo) H := hP
      have hD : va_D A (wMn K hMn rMn0 (hRo 99) rMn3 rMn4 rMn5 (hDr 99) rMn7 rMn8 rMn9 rMn10 o5.2 ++ wDr K hDr (hDw 99) rDr3 rDr4 sDr ++ wDw K hDw sDw ++ wRo K hRo sRo) := hD
      have e9 := Option.some.inj hf
      rw [hQ]
      exact W.iret (v := o5.1) hx hb hr (fun t ht hW => ⟨⟨o5.1, (0, o5.2, sDr, sDw), rfl, ⟨pr1 e9, pr2 e9⟩, ⟨by rw [ht]; exact hP, va_K.moved hW.alike hK, hD⟩⟩, hS.F ht⟩) hS.2.2 dX10_beats_32
  have hen : entryFrame m args 10 = entryFrame m (([.ref (hMn 99), .int p1, .int p2, .int p3, .int p4] : List Value).toArray) 10 := by rw [hargs]
  have hl := lv_entry ([.ref (hMn 99), .int p1, .int p2, .int p3, .int p4]) (n := 10) (Nat.le_of_ble_eq_true rfl)
  rw [hen, lg_entry_eq]
  generalize (lg_sl ([.ref (hMn 99), .int p1, .int p2, .int p3, .int p4]) ++ List.replicate (10 - (lg_sl ([.ref (hMn 99), .int p1, .int p2, .int p3, .int p4])).length) Slot.unset).toArray = ls at hl ⊢
  have hl : lv_has ls 10 [(0, .ref (hMn 99)), (1, .int p1), (2, .int p2), (3, .int p3), (4, .int p4)] := hl
  unfold f_X10_beats at hf
  obtain ⟨H, hHe⟩ : ∃ z, z = s.heap := ⟨_, rfl⟩
  obtain ⟨locs, hLe⟩ : ∃ z : List Loc, z = [] := ⟨_, rfl⟩
  rw [← hLe]
  have hS : va_S A s.heap H locs := by rw [hHe, hLe]; exact hS
  have hP : va_P D vwCl (wMn K hMn rMn0 (hRo 99) rMn3 rMn4 rMn5 (hDr 99) rMn7 rMn8 rMn9 rMn10 sMn ++ wDr K hDr (hDw 99) rDr3 rDr4 sDr ++ wDw K hDw sDw ++ wRo K hRo sRo) H := by rw [hHe]; exact hP
  have hgo : W p l e (headSpec wz_X10_beats r_X10_beats).room s m args below meth c H locs 0 0 Q (F0 m 0 ls []) := by
    refine lv_iload_n hx hb dX10_beats_0 rfl (lv_at hl 2 rfl) ?_
    obtain ⟨o1, go1, hf⟩ := bd_s hf
    refine ro_Si (As := [.int p2]) (rest := []) ⟨hx, hb, hml, hown, hts⟩ (c_X10_isRule l D K F p2 o1 go1) (va_cwS 1 hts (gcS_X10_isRule (mB39 _ (List.mem_of_getElem? (i := 1) rfl))) rfl rfl rfl hdS_X10_isRule ⟨Nat.le_of_ble_eq_true rfl, Nat.le_of_ble_eq_true rfl⟩) hK hP hS va_Pnil rfl hl.1 rfl (Nat.le_of_ble_eq_true rfl) dX10_beats_1 ⟨Nat.zero_le _, Nat.zero_le _⟩ (fun H locs hP hS => ?_)
    refine lv_if_eq (tgt := 18) hx hb dX10_beats_4 (by decide) (fun c2 => ?_) (fun c2 => ?_)
    · have hf := it_t hf c2
      refine lv_iconst (v := (1 : Int32)) hx hb dX10_beats_18 (by decide) ?_
      exact w19 (1 : Int32) sMn sDr sDw H locs ls hf hP hD hS (lv_sub hl [0, 1, 2, 3, 4] rfl)
    · have hf := it_f hf c2
      refine lv_aload_n hx hb dX10_beats_7 rfl (lv_at hl 0 rfl) ?_
      refine lv_iload_n hx hb dX10_beats_8 rfl (lv_at hl 1 rfl) ?_
      refine lv_iload_n hx hb dX10_beats_9 rfl (lv_at hl 3 rfl) ?_
      refine lv_iload hx hb dX10_beats_10 (lv_at hl 4 rfl) ?_
      obtain ⟨o3, go3, hf⟩ := bd_s hf
      refine ro_Vi (As := [.int p1, .int p3, .int p4]) (rest := []) ⟨hx, hb, hml, hown, hts⟩ (c_X10_whyNoRuns l D K F hMn rMn0 rMn3 rMn4 rMn5 (hDr 99) rMn7 rMn8 rMn9 rMn10 hRo sMn sRo p1 p3 p4 o3 go3) (cwV 3 hts (gcV_X10_whyNoRuns (mB60 _ (List.mem_of_getElem? (i := 4) rfl))) rfl rfl rfl hdV_X10_whyNoRuns ⟨Nat.le_of_ble_eq_true rfl, Nat.le_of_ble_eq_true rfl⟩) hK hP hS (va_PL (cs := [wMn K hMn rMn0 (hRo 99) rMn3 rMn4 rMn5 (hDr 99) rMn7 rMn8 rMn9 rMn10 sMn, wDr K hDr (hDw 99) rDr3 rDr4 sDr, wDw K hDw sDw, wRo K hRo sRo]) (cc := [wMn K hMn rMn0 (hRo 99) rMn3 rMn4 rMn5 (hDr 99) rMn7 rMn8 rMn9 rMn10 sMn, wRo K hRo sRo]) hP (fl4 _ _ _ _) [0, 3] rfl (fl2 _ _)) (va_recv hK hP (ci := 9) (q0 := 0) rfl (rwl (rwl (rwl o_Mn)))) rfl hl.1 rfl (Nat.le_of_ble_eq_true rfl) dX10_beats_12 ⟨Nat.zero_le _, Nat.zero_le _⟩ (fun H locs hP hS => ?_)
      refine lv_goto (tgt := 19) hx hb dX10_beats_15 (by decide) ?_
      exact w19 o3 sMn sDr sDw H locs ls hf hP hD hS (lv_sub hl [0, 1, 2, 3, 4] rfl)
  rw [hHe] at hgo
  exact hgo

def wz_X10_car : List Cond := .code yX10_car cX10_car 2 (some .int) :: wsL_law
abbrev r_X10_car : Room := { frames := 1, cells := 0, slots := 0, locals := 21 }
set_option maxHeartbeats 4000000 in
set_option maxRecDepth 100000 in
theorem c_X10_car (l : Launch) (D : va_G) (K : Nat → ClassId) (F : Nat) (hMn : Nat → Nat) (rMn0 : Nat) (rMn3 : Nat) (rMn4 : Nat) (rMn5 : Nat) (rMn6 : Nat) (rMn7 : Nat) (rMn8 : Nat) (rMn10 : Nat) (hJo : Nat → Nat) (rJo6 : Nat) (gJo4 : Nat → Nat) (gJo5 : Nat → Nat) (hRo : Nat → Nat) (sz : Nat) (sMn : MS) (sJo : MS) (sRo : MS) (p1 : Int32) (res : Int32 × MS) (hf : f_X10_car F sJo sRo p1 sMn = some res) : Met l yX10_car wz_X10_car r_X10_car (va_Pc [.ref (hMn 99), .int p1] (PW D K (wMn K hMn rMn0 (hRo 99) rMn3 rMn4 rMn5 rMn6 rMn7 rMn8 (hJo 99) rMn10 sMn ++ wJo K hJo rJo6 gJo4 gJo5 sJo ++ wRo K hRo sRo) sz)) (va_Qi (fun r u => r = res.1 ∧ u = res.2) (fun u t => BW D K (va_A (wMn K hMn rMn0 (hRo 99) rMn3 rMn4 rMn5 rMn6 rMn7 rMn8 (hJo 99) rMn10 sMn ++ wJo K hJo rJo6 gJo4 gJo5 sJo ++ wRo K hRo sRo) sz) (wMn K hMn rMn0 (hRo 99) rMn3 rMn4 rMn5 rMn6 rMn7 rMn8 (hJo 99) rMn10 u ++ wJo K hJo rJo6 gJo4 gJo5 sJo ++ wRo K hRo sRo) t) (va_A (wMn K hMn rMn0 (hRo 99) rMn3 rMn4 rMn5 rMn6 rMn7 rMn8 (hJo 99) rMn10 sMn ++ wJo K hJo rJo6 gJo4 gJo5 sJo ++ wRo K hRo sRo) sz)) 0 0 (va_A (wMn K hMn rMn0 (hRo 99) rMn3 rMn4 rMn5 rMn6 rMn7 rMn8 (hJo 99) rMn10 sMn ++ wJo K hJo rJo6 gJo4 gJo5 sJo ++ wRo K hRo sRo) sz) := by
  refine Met.ofW (cc := cX10_car) (maxL := 2) (ret := (some .int)) (by decide) rfl ?_
  intro p e s m args below meth c s₁ B hml hv
  obtain ⟨hargs, hsz, hP, hK, hD0⟩ := hv
  have hx := B.exec
  have hb := B.bytes
  have hr := B.returns
  have hts := atoms_spec (ws := wz_X10_car) B.pre
  have htl : ∀ w ∈ wsL_law, w.before args s = true := fun w h => hts w (List.mem_cons_of_mem _ h)
  have hown : s.vm.findClass RX10 = some m.cls := findClass_of_methodNamed B.named
  have hlocks := B.notSynchronized
  subst hsz
  have hD := hD0.self (sz := s.heap.size)
  generalize hAe : va_A (wMn K hMn rMn0 (hRo 99) rMn3 rMn4 rMn5 rMn6 rMn7 rMn8 (hJo 99) rMn10 sMn ++ wJo K hJo rJo6 gJo4 gJo5 sJo ++ wRo K hRo sRo) s.heap.size = A at hD ⊢
  have hA : ∀ q : Nat, s.heap.size ≤ q → A q := fun q h => by rw [← hAe]; exact Or.inr h
  have hS : va_S A s.heap s.heap [] := va_S.rf
  have iX10 : ∀ w ∈ wsX100, w ∈ wz_X10_car := fun w h => List.mem_cons_of_mem _ (inlX10 w h)
  have iX3 : ∀ w ∈ wsX30, w ∈ wz_X10_car := fun w h => List.mem_cons_of_mem _ (inlX3 w h)
  suffices hgo : ∀ Q : State → Prop, Q = MQ below (va_Qi (fun r u => r = res.1 ∧ u = res.2) (fun u t => BW D K A (wMn K hMn rMn0 (hRo 99) rMn3 rMn4 rMn5 rMn6 rMn7 rMn8 (hJo 99) rMn10 u ++ wJo K hJo rJo6 gJo4 gJo5 sJo ++ wRo K hRo sRo) t) A) args s 0 0 A → W p l e (headSpec wz_X10_car r_X10_car).room s m args below meth c s.heap [] 0 0 Q (entryFrame m args 2) from hgo _ rfl
  intro Q hQ
  have w19 : ∀ (sMn : MS), ∀ (H : Heap) (locs : List Loc) (ls : Array Slot), f_X10_car_19 F sJo sRo p1 sMn = some res → va_P D vwCl (wMn K hMn rMn0 (hRo 99) rMn3 rMn4 rMn5 rMn6 rMn7 rMn8 (hJo 99) rMn10 sMn ++ wJo K hJo rJo6 gJo4 gJo5 sJo ++ wRo K hRo sRo) H → va_D A (wMn K hMn rMn0 (hRo 99) rMn3 rMn4 rMn5 rMn6 rMn7 rMn8 (hJo 99) rMn10 sMn ++ wJo K hJo rJo6 gJo4 gJo5 sJo ++ wRo K hRo sRo) → va_S A s.heap H locs → lv_has ls 2 [(0, .ref (hMn 99))] → W p l e (headSpec wz_X10_car r_X10_car).room s m args below meth c H locs 0 0 Q (F0 m 19 ls []) := by
    intro sMn H locs ls hf hP hD hS hl
    unfold f_X10_car_19 at hf
    refine lv_aload_n hx hb dX10_car_19 rfl (lv_at hl 0 rfl) ?_
    refine lv_iconst (v := (1 : Int32)) hx hb dX10_car_20 (by decide) ?_
    obtain ⟨o7, go7, hf⟩ := bd_s hf
    refine rk_Vi (wn := wMn K hMn rMn0 (hRo 99) rMn3 rMn4 rMn5 rMn6 rMn7 rMn8 (hJo 99) rMn10 o7.2 ++ wJo K hJo rJo6 gJo4 gJo5 sJo ++ wRo K hRo sRo) [wMn K hMn rMn0 (hRo 99) rMn3 rMn4 rMn5 rMn6 rMn7 rMn8 (hJo 99) rMn10 sMn, wJo K hJo rJo6 gJo4 gJo5 sJo, wRo K hRo sRo] [wMn K hMn rMn0 (hRo 99) rMn3 rMn4 rMn5 rMn6 rMn7 rMn8 (hJo 99) rMn10 sMn] [wMn K hMn rMn0 (hRo 99) rMn3 rMn4 rMn5 rMn6 rMn7 rMn8 (hJo 99) rMn10 o7.2] [wMn K hMn rMn0 (hRo 99) rMn3 rMn4 rMn5 rMn6 rMn7 rMn8 (hJo 99) rMn10 o7.2, wJo K hJo rJo6 gJo4 gJo5 sJo, wRo K hRo sRo] (As := [.int (1 : Int32)]) (rest := []) ⟨hx, hb, hml, hown, hts⟩ (c_X10_refuse l D K F hMn rMn0 (hRo 99) rMn3 rMn4 rMn5 rMn6 rMn7 rMn8 (hJo 99) rMn10 H.size sMn (1 : Int32) o7 go7) (cwV 1 hts (gcV_X10_refuse (mB7 _ (List.mem_of_getElem? (i := 18) rfl))) rfl rfl rfl hdV_X10_refuse ⟨Nat.le_of_ble_eq_true rfl, Nat.le_of_ble_eq_true rfl⟩) hK hP hD hS hA [0] (fl3 _ _ _) rfl (by decide) (fl1 _) (fl1 _) rfl rfl (fl3 _ _ _) (va_recv hK hP (ci := 9) (q0 := 0) rfl (rwl (rwl o_Mn))) rfl hl.1 rfl (Nat.le_of_ble_eq_true rfl) dX10_car_21 ⟨Nat.zero_le _, Nat.zero_le _⟩ (fun H locs hP hD hS => ?_)
    have hP : va_P D vwCl (wMn K hMn rMn0 (hRo 99) rMn3 rMn4 rMn5 rMn6 rMn7 rMn8 (hJo 99) rMn10 o7.2 ++ wJo K hJo rJo6 gJo4 gJo5 sJo ++ wRo K hRo sRo) H := hP
    have hD : va_D A (wMn K hMn rMn0 (hRo 99) rMn3 rMn4 rMn5 rMn6 rMn7 rMn8 (hJo 99) rMn10 o7.2 ++ wJo K hJo rJo6 gJo4 gJo5 sJo ++ wRo K hRo sRo) := hD
    have e9 := Option.some.inj hf
    rw [hQ]
    exact W.iret (v := o7.1) hx hb hr (fun t ht hW => ⟨⟨o7.1, o7.2, rfl, ⟨pr1 e9, pr2 e9⟩, ⟨by rw [ht]; exact hP, va_K.moved hW.alike hK, hD⟩⟩, hS.F ht⟩) hS.2.2 dX10_car_24
  have hen : entryFrame m args 2 = entryFrame m (([.ref (hMn 99), .int p1] : List Value).toArray) 2 := by rw [hargs]
  have hl := lv_entry ([.ref (hMn 99), .int p1]) (n := 2) (Nat.le_of_ble_eq_true rfl)
  rw [hen, lg_entry_eq]
  generalize (lg_sl ([.ref (hMn 99), .int p1]) ++ List.replicate (2 - (lg_sl ([.ref (hMn 99), .int p1])).length) Slot.unset).toArray = ls at hl ⊢
  have hl : lv_has ls 2 [(0, .ref (hMn 99)), (1, .int p1)] := hl
  unfold f_X10_car at hf
  obtain ⟨H, hHe⟩ : ∃ z, z = s.heap := ⟨_, rfl⟩
  obtain ⟨locs, hLe⟩ : ∃ z : List Loc, z = [] := ⟨_, rfl⟩
  rw [← hLe]
  have hS : va_S A s.heap H locs := by rw [hHe, hLe]; exact hS
  have hP : va_P D vwCl (wMn K hMn rMn0 (hRo 99) rMn3 rMn4 rMn5 rMn6 rMn7 rMn8 (hJo 99) rMn10 sMn ++ wJo K hJo rJo6 gJo4 gJo5 sJo ++ wRo K hRo sRo) H := by rw [hHe]; exact hP
  have hgo : W p l e (headSpec wz_X10_car r_X10_car).room s m args below meth c H locs 0 0 Q (F0 m 0 ls []) := by
    refine lv_aload_n hx hb dX10_car_0 rfl (lv_at hl 0 rfl) ?_
    refine va_get (D := D) (ci := 9) (v := .ref (hRo 99)) (C := RX10) (T := TX10) (N := 14) hx hb hts iX10 hown hK hP 0 (rwl (rwl o_Mn)) rfl 2 (by decide) (htl _ (mB1 _ (List.mem_of_getElem? (i := 18) rfl))) (fun _ h9 => h9) rfl dX10_car_1 ?_
    obtain ⟨o1, go1, hf⟩ := bd_s hf
    refine ro_Vi (As := []) (rest := []) ⟨hx, hb, hml, hown, hts⟩ (c_X9_isTold l D K F hRo sRo o1 go1) (cwV 0 hts (gcV_X9_isTold (mB30 _ (List.mem_of_getElem? (i := 0) rfl))) rfl rfl rfl hdV_X9_isTold ⟨Nat.le_of_ble_eq_true rfl, Nat.le_of_ble_eq_true rfl⟩) hK hP hS (va_PL (cs := [wMn K hMn rMn0 (hRo 99) rMn3 rMn4 rMn5 rMn6 rMn7 rMn8 (hJo 99) rMn10 sMn, wJo K hJo rJo6 gJo4 gJo5 sJo, wRo K hRo sRo]) (cc := [wRo K hRo sRo]) hP (fl3 _ _ _) [2] rfl (fl1 _)) (va_recv hK hP (ci := 8) (q0 := ((1 + 4) + 0)) rfl (rwr (lnA ln_Mn ln_Jo) o_Ro)) rfl hl.1 rfl (Nat.le_of_ble_eq_true rfl) dX10_car_4 ⟨Nat.zero_le _, Nat.zero_le _⟩ (fun H locs hP hS => ?_)
    refine lv_if_eq (tgt := 19) hx hb dX10_car_7 (by decide) (fun c2 => ?_) (fun c2 => ?_)
    · have hf := it_t hf c2
      exact w19 sMn H locs ls hf hP hD hS (lv_sub hl [0] rfl)
    · have hf := it_f hf c2
      refine lv_iload_n hx hb dX10_car_10 rfl (lv_at hl 1 rfl) ?_
      refine lv_if_lt (tgt := 19) hx hb dX10_car_11 (by decide) (fun c3 => ?_) (fun c3 => ?_)
      · have hf := it_t hf c3
        exact w19 sMn H locs ls hf hP hD hS (lv_sub hl [0] rfl)
      · have hf := it_f hf c3
        refine lv_iload_n hx hb dX10_car_14 rfl (lv_at hl 1 rfl) ?_
        refine lv_iconst (v := (4 : Int32)) hx hb dX10_car_15 (by decide) ?_
        refine lv_icmp_le (tgt := 25) hx hb dX10_car_16 (by decide) (fun c4 => ?_) (fun c4 => ?_)
        · have hf := it_t hf c4
          refine lv_aload_n hx hb dX10_car_25 rfl (lv_at hl 0 rfl) ?_
          refine lv_aload_n hx hb dX10_car_26 rfl (lv_at hl 0 rfl) ?_
          refine va_get (D := D) (ci := 9) (v := .ref (hJo 99)) (C := RX10) (T := TX10) (N := 14) hx hb hts iX10 hown hK hP 0 (rwl (rwl o_Mn)) rfl 9 (by decide) (htl _ (mB2 _ (List.mem_of_getElem? (i := 19) rfl))) (fun _ h9 => h9) rfl dX10_car_27 ?_
          refine va_get (D := D) (ci := 3) (v := .ref (hJo 0)) (C := RX3) (T := TX3) (N := 7) hx hb hts iX3 hown hK hP (1 + 0) (rwl (rwr ln_Mn o_Jo)) rfl 0 (by decide) (htl _ (mB61 _ (List.mem_of_getElem? (i := 22) rfl))) (fun _ h9 => h9) rfl dX10_car_30 ?_
          refine lv_iload_n hx hb dX10_car_33 rfl (lv_at hl 1 rfl) ?_
          obtain ⟨g5, hf⟩ := gd_s hf
          refine va_iald hx hb hK hP (1 + 1) 0 (f := sJo.2.2.1 0) (rwl (rwr ln_Mn a_Jo_0)) rfl (vpb_in g5) dX10_car_34 ?_
          obtain ⟨o6, go6, hf⟩ := bd_s hf
          refine rk_Vi (wn := wMn K hMn rMn0 (hRo 99) rMn3 rMn4 rMn5 rMn6 rMn7 rMn8 (hJo 99) rMn10 o6.2 ++ wJo K hJo rJo6 gJo4 gJo5 sJo ++ wRo K hRo sRo) [wMn K hMn rMn0 (hRo 99) rMn3 rMn4 rMn5 rMn6 rMn7 rMn8 (hJo 99) rMn10 sMn, wJo K hJo rJo6 gJo4 gJo5 sJo, wRo K hRo sRo] [wMn K hMn rMn0 (hRo 99) rMn3 rMn4 rMn5 rMn6 rMn7 rMn8 (hJo 99) rMn10 sMn] [wMn K hMn rMn0 (hRo 99) rMn3 rMn4 rMn5 rMn6 rMn7 rMn8 (hJo 99) rMn10 o6.2] [wMn K hMn rMn0 (hRo 99) rMn3 rMn4 rMn5 rMn6 rMn7 rMn8 (hJo 99) rMn10 o6.2, wJo K hJo rJo6 gJo4 gJo5 sJo, wRo K hRo sRo] (As := [.int (sJo.2.2.1 0 p1.toNatClampNeg)]) (rest := []) ⟨hx, hb, hml, hown, hts⟩ (c_X10_accept l D K F hMn rMn0 (hRo 99) rMn3 rMn4 rMn5 rMn6 rMn7 rMn8 (hJo 99) rMn10 H.size sMn (sJo.2.2.1 0 p1.toNatClampNeg) o6 go6) (cwV 1 hts (gcV_X10_accept (mB17 _ (List.mem_of_getElem? (i := 14) rfl))) rfl rfl rfl hdV_X10_accept ⟨Nat.le_of_ble_eq_true rfl, Nat.le_of_ble_eq_true rfl⟩) hK hP hD hS hA [0] (fl3 _ _ _) rfl (by decide) (fl1 _) (fl1 _) rfl rfl (fl3 _ _ _) (va_recv hK hP (ci := 9) (q0 := 0) rfl (rwl (rwl o_Mn))) rfl hl.1 rfl (Nat.le_of_ble_eq_true rfl) dX10_car_35 ⟨Nat.zero_le _, Nat.zero_le _⟩ (fun H locs hP hD hS => ?_)
          have hP : va_P D vwCl (wMn K hMn rMn0 (hRo 99) rMn3 rMn4 rMn5 rMn6 rMn7 rMn8 (hJo 99) rMn10 o6.2 ++ wJo K hJo rJo6 gJo4 gJo5 sJo ++ wRo K hRo sRo) H := hP
          have hD : va_D A (wMn K hMn rMn0 (hRo 99) rMn3 rMn4 rMn5 rMn6 rMn7 rMn8 (hJo 99) rMn10 o6.2 ++ wJo K hJo rJo6 gJo4 gJo5 sJo ++ wRo K hRo sRo) := hD
          have e9 := Option.some.inj hf
          rw [hQ]
          exact W.iret (v := o6.1) hx hb hr (fun t ht hW => ⟨⟨o6.1, o6.2, rfl, ⟨pr1 e9, pr2 e9⟩, ⟨by rw [ht]; exact hP, va_K.moved hW.alike hK, hD⟩⟩, hS.F ht⟩) hS.2.2 dX10_car_38
        · have hf := it_f hf c4
          exact w19 sMn H locs ls hf hP hD hS (lv_sub hl [0] rfl)
  rw [hHe] at hgo
  exact hgo
