def wz_X11_back : List Cond := .code yX11_back cX11_back 2 (some .boolean) :: wsL_law
abbrev r_X11_back : Room := { frames := 1, cells := 0, slots := 0, locals := 25 }
set_option maxHeartbeats 4000000 in
set_option maxRecDepth 100000 in
theorem c_X11_back (l : Launch) (D : va_G) (K : Nat → ClassId) (F : Nat) (hMo : Nat → Nat) (sz : Nat) (sMo : MS) (p1 : Int32) (res : Int32 × MS) (hf : f_X11_back F p1 sMo = some res) : Met l yX11_back wz_X11_back r_X11_back (va_Pc [.ref (hMo 99), .int p1] (PW D K (wMo K hMo sMo) sz)) (va_Qi (fun r u => r = res.1 ∧ u = res.2) (fun u t => BW D K (va_A (wMo K hMo sMo) sz) (wMo K hMo u) t) (va_A (wMo K hMo sMo) sz)) 0 0 (va_A (wMo K hMo sMo) sz) := by
  refine Met.ofW (cc := cX11_back) (maxL := 2) (ret := (some .boolean)) (by decide) rfl ?_
  intro p e s m args below meth c s₁ B hml hv
  obtain ⟨hargs, hsz, hP, hK, hD0⟩ := hv
  have hx := B.exec
  have hb := B.bytes
  have hr := B.returns
  have hts := atoms_spec (ws := wz_X11_back) B.pre
  have htl : ∀ w ∈ wsL_law, w.before args s = true := fun w h => hts w (List.mem_cons_of_mem _ h)
  have hown : s.vm.findClass RX11 = some m.cls := findClass_of_methodNamed B.named
  have hlocks := B.notSynchronized
  subst hsz
  have hD := hD0.self (sz := s.heap.size)
  generalize hAe : va_A (wMo K hMo sMo) s.heap.size = A at hD ⊢
  have hA : ∀ q : Nat, s.heap.size ≤ q → A q := fun q h => by rw [← hAe]; exact Or.inr h
  have hS : va_S A s.heap s.heap [] := va_S.rf
  have iX11 : ∀ w ∈ wsX110, w ∈ wz_X11_back := fun w h => List.mem_cons_of_mem _ (inlX11 w h)
  suffices hgo : ∀ Q : State → Prop, Q = MQ below (va_Qi (fun r u => r = res.1 ∧ u = res.2) (fun u t => BW D K A (wMo K hMo u) t) A) args s 0 0 A → W p l e (headSpec wz_X11_back r_X11_back).room s m args below meth c s.heap [] 0 0 Q (entryFrame m args 2) from hgo _ rfl
  intro Q hQ
  have hen : entryFrame m args 2 = entryFrame m (([.ref (hMo 99), .int p1] : List Value).toArray) 2 := by rw [hargs]
  have hl := lv_entry ([.ref (hMo 99), .int p1]) (n := 2) (Nat.le_of_ble_eq_true rfl)
  rw [hen, lg_entry_eq]
  generalize (lg_sl ([.ref (hMo 99), .int p1]) ++ List.replicate (2 - (lg_sl ([.ref (hMo 99), .int p1])).length) Slot.unset).toArray = ls at hl ⊢
  have hl : lv_has ls 2 [(0, .ref (hMo 99)), (1, .int p1)] := hl
  unfold f_X11_back at hf
  obtain ⟨H, hHe⟩ : ∃ z, z = s.heap := ⟨_, rfl⟩
  obtain ⟨locs, hLe⟩ : ∃ z : List Loc, z = [] := ⟨_, rfl⟩
  rw [← hLe]
  have hS : va_S A s.heap H locs := by rw [hHe, hLe]; exact hS
  have hP : va_P D vwCl (wMo K hMo sMo) H := by rw [hHe]; exact hP
  have hgo : W p l e (headSpec wz_X11_back r_X11_back).room s m args below meth c H locs 0 0 Q (F0 m 0 ls []) := by
    refine lv_aload_n hx hb dX11_back_0 rfl (lv_at hl 0 rfl) ?_
    obtain ⟨o1, go1, hf⟩ := bd_s hf
    refine rs_Vv (As := []) (rest := []) ⟨hx, hb, hml, hown, hts⟩ (c_X11_good l D K F hMo H.size sMo o1 go1) (cwV 0 hts (gcV_X11_good (mB18 _ (List.mem_of_getElem? (i := 7) rfl))) rfl rfl rfl hdV_X11_good ⟨Nat.le_of_ble_eq_true rfl, Nat.le_of_ble_eq_true rfl⟩) hK hP hD hS hA (va_recv hK hP (ci := 10) (q0 := 0) rfl o_Mo) rfl hl.1 rfl (Nat.le_of_ble_eq_true rfl) dX11_back_1 ⟨Nat.zero_le _, Nat.zero_le _⟩ (fun H locs hP hD hS => ?_)
    have hP : va_P D vwCl (wMo K hMo o1) H := hP
    have hD : va_D A (wMo K hMo o1) := hD
    refine lv_iload_n hx hb dX11_back_4 rfl (lv_at hl 1 rfl) ?_
    refine lv_iconst (v := (0 : Int32)) hx hb dX11_back_5 (by decide) ?_
    refine lv_aload_n hx hb dX11_back_6 rfl (lv_at hl 0 rfl) ?_
    refine va_get (D := D) (ci := 10) (v := .int (o1.1 22)) (C := RX11) (T := TX11) (N := 41) hx hb hts iX11 hown hK hP 0 o_Mo rfl 22 (by decide) (htl _ (mB18 _ (List.mem_of_getElem? (i := 6) rfl))) (fun _ h9 => h9) rfl dX11_back_7 ?_
    refine lv_iconst (v := (1 : Int32)) hx hb dX11_back_10 (by decide) ?_
    refine lv_isub hx hb dX11_back_11 ?_
    obtain ⟨o2, go2, hf⟩ := bd_s hf
    refine ro_Si (As := [.int p1, .int (0 : Int32), .int ((o1.1 22) - (1 : Int32))]) (rest := []) ⟨hx, hb, hml, hown, hts⟩ (c_X11_in l D K F p1 (0 : Int32) ((o1.1 22) - (1 : Int32)) o2 go2) (va_cwS 3 hts (gcS_X11_in (mB18 _ (List.mem_of_getElem? (i := 12) rfl))) rfl rfl rfl hdS_X11_in ⟨Nat.le_of_ble_eq_true rfl, Nat.le_of_ble_eq_true rfl⟩) hK hP hS va_Pnil rfl hl.1 rfl (Nat.le_of_ble_eq_true rfl) dX11_back_12 ⟨Nat.zero_le _, Nat.zero_le _⟩ (fun H locs hP hS => ?_)
    refine lv_if_ne (tgt := 24) hx hb dX11_back_15 (by decide) (fun c3 => ?_) (fun c3 => ?_)
    · have hf := it_f hf c3
      refine lv_aload_n hx hb dX11_back_24 rfl (lv_at hl 0 rfl) ?_
      refine va_get (D := D) (ci := 10) (v := .ref (hMo 20)) (C := RX11) (T := TX11) (N := 41) hx hb hts iX11 hown hK hP 0 o_Mo rfl 20 (by decide) (htl _ (mB6 _ (List.mem_of_getElem? (i := 8) rfl))) (fun _ h9 => h9) rfl dX11_back_25 ?_
      refine lv_bipush (v := (7 : Int32)) hx hb dX11_back_28 (by decide) ?_
      refine lv_iload_n hx hb dX11_back_30 rfl (lv_at hl 1 rfl) ?_
      refine lv_imul hx hb dX11_back_31 ?_
      refine lv_aload_n hx hb dX11_back_32 rfl (lv_at hl 0 rfl) ?_
      refine va_get (D := D) (ci := 10) (v := .ref (hMo 18)) (C := RX11) (T := TX11) (N := 41) hx hb hts iX11 hown hK hP 0 o_Mo rfl 18 (by decide) (htl _ (mB6 _ (List.mem_of_getElem? (i := 6) rfl))) (fun _ h9 => h9) rfl dX11_back_33 ?_
      refine lv_iconst (v := (0 : Int32)) hx hb dX11_back_36 (by decide) ?_
      refine lv_bipush (v := (7 : Int32)) hx hb dX11_back_37 (by decide) ?_
      obtain ⟨o4, go4, hf⟩ := bd_s hf
      refine rw_Sv (wn := wMo K hMo (wA o1 18 o4)) (As := [.ref (hMo 20), .int ((7 : Int32) * p1), .ref (hMo 18), .int (0 : Int32), .int (7 : Int32)]) (rest := []) ⟨hx, hb, hml, hown, hts⟩ (c_X11_copy l D K F (hMo 20) 21 (hMo 18) 7 H.size (o1.2.2.1 20) (o1.2.2.1 18) ((7 : Int32) * p1) (0 : Int32) (7 : Int32) o4 go4) (va_cwS 5 hts (gcS_X11_copy (mB22 _ (List.mem_of_getElem? (i := 21) rfl))) rfl rfl rfl hdS_X11_copy ⟨Nat.le_of_ble_eq_true rfl, Nat.le_of_ble_eq_true rfl⟩) hK hP hD hS hA [8, 6] [0, 1, 2, 3, 4, 5, 7, 9, 10, 11, 12, 13, 14, 15, 16, 17] [0, 1, 2, 3, 4, 5, 17, 6, 16, 7, 8, 9, 10, 11, 12, 13, 14, 15] rfl rfl (by decide +kernel) (by decide +kernel) (by decide +kernel) rfl (by decide +kernel) rfl hl.1 rfl (Nat.le_of_ble_eq_true rfl) dX11_back_39 ⟨Nat.zero_le _, Nat.zero_le _⟩ (fun H locs hP hD hS => ?_)
      have hP : va_P D vwCl (wMo K hMo (wA o1 18 o4)) H := hP
      have hD : va_D A (wMo K hMo (wA o1 18 o4)) := hD
      obtain ⟨s5, es5⟩ : ∃ z, z = (wA o1 18 o4) := ⟨_, rfl⟩
      have hP : va_P D vwCl (wMo K hMo s5) H := by rw [es5]; exact hP
      have hD : va_D A (wMo K hMo s5) := by rw [es5]; exact hD
      have hf := lz_s hf s5 es5
      refine lv_aload_n hx hb dX11_back_42 rfl (lv_at hl 0 rfl) ?_
      refine lv_iconst (v := (0 : Int32)) hx hb dX11_back_43 (by decide) ?_
      refine va_put (D := D) (ci := 10) (v := .int (0 : Int32)) (ty := .int) (C := RX11) (T := TX11) (N := 41) hx hb hts iX11 tyX11 tyX11_ok nmX11 hown hK hP hD hS 0 o_Mo rfl 21 (by decide) (htl _ (mB18 _ (List.mem_of_getElem? (i := 5) rfl))) (fun _ h9 => h9) rfl (by decide +kernel) rfl rfl (Nat.le_of_ble_eq_true rfl) dX11_back_44 (fun H locs hP hD hS => ?_)
      have hP := cvP si_Mo_21 hP
      have hD := cvD si_Mo_21 hD
      obtain ⟨s6, es6⟩ : ∃ z, z = sI s5 21 (0 : Int32) := ⟨_, rfl⟩
      have hP : va_P D vwCl (wMo K hMo s6) H := by rw [es6]; exact hP
      have hD : va_D A (wMo K hMo s6) := by rw [es6]; exact hD
      have hf := lz_s hf s6 es6
      refine lv_iconst (v := (1 : Int32)) hx hb dX11_back_47 (by decide) ?_
      have e9 := Option.some.inj hf
      rw [hQ]
      exact W.zret (v := (1 : Int32)) hx hb hr rfl (fun t ht hW => ⟨⟨(1 : Int32), s6, rfl, ⟨pr1 e9, pr2 e9⟩, ⟨by rw [ht]; exact hP, va_K.moved hW.alike hK, hD⟩⟩, hS.F ht⟩) hS.2.2 dX11_back_48
    · have hf := it_t hf c3
      refine lv_aload_n hx hb dX11_back_18 rfl (lv_at hl 0 rfl) ?_
      refine lv_iconst (v := (1 : Int32)) hx hb dX11_back_19 (by decide) ?_
      obtain ⟨o7, go7, hf⟩ := bd_s hf
      refine rs_Vi (As := [.int (1 : Int32)]) (rest := []) ⟨hx, hb, hml, hown, hts⟩ (c_X11_isNot l D K F hMo H.size o1 (1 : Int32) o7 go7) (cwV 1 hts (gcV_X11_isNot (mB29 _ (List.mem_of_getElem? (i := 16) rfl))) rfl rfl rfl hdV_X11_isNot ⟨Nat.le_of_ble_eq_true rfl, Nat.le_of_ble_eq_true rfl⟩) hK hP hD hS hA (va_recv hK hP (ci := 10) (q0 := 0) rfl o_Mo) rfl hl.1 rfl (Nat.le_of_ble_eq_true rfl) dX11_back_20 ⟨Nat.zero_le _, Nat.zero_le _⟩ (fun H locs hP hD hS => ?_)
      have hP : va_P D vwCl (wMo K hMo o7.2) H := hP
      have hD : va_D A (wMo K hMo o7.2) := hD
      obtain ⟨g8, hf⟩ := gd_s hf
      have e9 := Option.some.inj hf
      rw [hQ]
      exact W.zret (v := o7.1) hx hb hr (bob_s g8) (fun t ht hW => ⟨⟨o7.1, o7.2, rfl, ⟨pr1 e9, pr2 e9⟩, ⟨by rw [ht]; exact hP, va_K.moved hW.alike hK, hD⟩⟩, hS.F ht⟩) hS.2.2 dX11_back_23
  rw [hHe] at hgo
  exact hgo

def wz_X11_led : List Cond := .code yX11_led cX11_led 4 (some .int) :: wsL_law
abbrev r_X11_led : Room := { frames := 1, cells := 0, slots := 0, locals := 22 }
set_option maxHeartbeats 4000000 in
set_option maxRecDepth 100000 in
theorem c_X11_led (l : Launch) (D : va_G) (K : Nat → ClassId) (F : Nat) (hMo : Nat → Nat) (sz : Nat) (sMo : MS) (p1 : Int32) (res : Int32 × MS) (hf : f_X11_led F p1 sMo = some res) : Met l yX11_led wz_X11_led r_X11_led (va_Pc [.ref (hMo 99), .int p1] (PW D K (wMo K hMo sMo) sz)) (va_Qi (fun r u => r = res.1 ∧ u = res.2) (fun u t => BW D K (va_A (wMo K hMo sMo) sz) (wMo K hMo u) t) (va_A (wMo K hMo sMo) sz)) 0 0 (va_A (wMo K hMo sMo) sz) := by
  refine Met.ofW (cc := cX11_led) (maxL := 4) (ret := (some .int)) (by decide) rfl ?_
  intro p e s m args below meth c s₁ B hml hv
  obtain ⟨hargs, hsz, hP, hK, hD0⟩ := hv
  have hx := B.exec
  have hb := B.bytes
  have hr := B.returns
  have hts := atoms_spec (ws := wz_X11_led) B.pre
  have htl : ∀ w ∈ wsL_law, w.before args s = true := fun w h => hts w (List.mem_cons_of_mem _ h)
  have hown : s.vm.findClass RX11 = some m.cls := findClass_of_methodNamed B.named
  have hlocks := B.notSynchronized
  subst hsz
  have hD := hD0.self (sz := s.heap.size)
  generalize hAe : va_A (wMo K hMo sMo) s.heap.size = A at hD ⊢
  have hA : ∀ q : Nat, s.heap.size ≤ q → A q := fun q h => by rw [← hAe]; exact Or.inr h
  have hS : va_S A s.heap s.heap [] := va_S.rf
  have iX11 : ∀ w ∈ wsX110, w ∈ wz_X11_led := fun w h => List.mem_cons_of_mem _ (inlX11 w h)
  suffices hgo : ∀ Q : State → Prop, Q = MQ below (va_Qi (fun r u => r = res.1 ∧ u = res.2) (fun u t => BW D K A (wMo K hMo u) t) A) args s 0 0 A → W p l e (headSpec wz_X11_led r_X11_led).room s m args below meth c s.heap [] 0 0 Q (entryFrame m args 4) from hgo _ rfl
  intro Q hQ
  have w79 : ∀ (sMo : MS), ∀ (H : Heap) (locs : List Loc) (ls : Array Slot), f_X11_led_79 F p1 sMo = some res → va_P D vwCl (wMo K hMo sMo) H → va_D A (wMo K hMo sMo) → va_S A s.heap H locs → lv_has ls 4 [(0, .ref (hMo 99))] → W p l e (headSpec wz_X11_led r_X11_led).room s m args below meth c H locs 0 0 Q (F0 m 79 ls []) := by
    intro sMo H locs ls hf hP hD hS hl
    unfold f_X11_led_79 at hf
    refine lv_aload_n hx hb dX11_led_79 rfl (lv_at hl 0 rfl) ?_
    refine lv_iconst (v := (1 : Int32)) hx hb dX11_led_80 (by decide) ?_
    refine va_put (D := D) (ci := 10) (v := .int (1 : Int32)) (ty := .int) (C := RX11) (T := TX11) (N := 41) hx hb hts iX11 tyX11 tyX11_ok nmX11 hown hK hP hD hS 0 o_Mo rfl 0 (by decide) (htl _ (mB7 _ (List.mem_of_getElem? (i := 7) rfl))) (fun _ h9 => h9) rfl (by decide +kernel) rfl rfl (Nat.le_of_ble_eq_true rfl) dX11_led_81 (fun H locs hP hD hS => ?_)
    have hP := cvP si_Mo_0 hP
    have hD := cvD si_Mo_0 hD
    obtain ⟨s19, es19⟩ : ∃ z, z = sI sMo 0 (1 : Int32) := ⟨_, rfl⟩
    have hP : va_P D vwCl (wMo K hMo s19) H := by rw [es19]; exact hP
    have hD : va_D A (wMo K hMo s19) := by rw [es19]; exact hD
    have hf := lz_s hf s19 es19
    refine lv_iconst (v := (0 : Int32)) hx hb dX11_led_84 (by decide) ?_
    have e9 := Option.some.inj hf
    rw [hQ]
    exact W.iret (v := (0 : Int32)) hx hb hr (fun t ht hW => ⟨⟨(0 : Int32), s19, rfl, ⟨pr1 e9, pr2 e9⟩, ⟨by rw [ht]; exact hP, va_K.moved hW.alike hK, hD⟩⟩, hS.F ht⟩) hS.2.2 dX11_led_85
  have w73 : ∀ (k4 : Int32 → Int32 → MS → Option (Int32 × MS)), (∀ (x2 : Int32), ∀ (x3 : Int32), ∀ (sMo : MS), ∀ (H : Heap) (locs : List Loc) (ls : Array Slot), k4 x2 x3 sMo = some res → va_P D vwCl (wMo K hMo sMo) H → va_D A (wMo K hMo sMo) → va_S A s.heap H locs → lv_has ls 4 [(0, .ref (hMo 99)), (1, .int p1), (2, .int x2), (3, .int x3)] → W p l e (headSpec wz_X11_led r_X11_led).room s m args below meth c H locs 0 0 Q (F0 m 4 ls [])) → ∀ (x2 : Int32), ∀ (x3 : Int32), ∀ (sMo : MS), ∀ (H : Heap) (locs : List Loc) (ls : Array Slot), f_X11_led_73 F p1 k4 x2 x3 sMo = some res → va_P D vwCl (wMo K hMo sMo) H → va_D A (wMo K hMo sMo) → va_S A s.heap H locs → lv_has ls 4 [(0, .ref (hMo 99)), (1, .int p1), (2, .int x2), (3, .int x3)] → W p l e (headSpec wz_X11_led r_X11_led).room s m args below meth c H locs 0 0 Q (F0 m 73 ls []) := by
    intro k4 hk4 x2 x3 sMo H locs ls hf hP hD hS hl
    unfold f_X11_led_73 at hf
    obtain ⟨v18, ev18⟩ : ∃ z : Int32, z = x3 + (1 : Int32) := ⟨_, rfl⟩
    have hf := lz_s hf v18 ev18
    refine lv_iinc (v := v18) (lv' := [(3, .int v18), (0, .ref (hMo 99)), (1, .int p1), (2, .int x2)]) hx hb dX11_led_73 hl (k := 3) rfl (by rw [ev18]; rfl) (by decide) rfl (fun ls hl => ?_)
    refine lv_goto (tgt := 4) hx hb dX11_led_76 (by decide) ?_
    exact hk4 x2 v18 sMo H locs ls hf hP hD hS (lv_sub hl [1, 2, 3, 0] rfl)
  have w63 : ∀ (x3 : Int32), ∀ (sMo : MS), ∀ (H : Heap) (locs : List Loc) (ls : Array Slot), f_X11_led_63 F p1 x3 sMo = some res → va_P D vwCl (wMo K hMo sMo) H → va_D A (wMo K hMo sMo) → va_S A s.heap H locs → lv_has ls 4 [(0, .ref (hMo 99)), (3, .int x3)] → W p l e (headSpec wz_X11_led r_X11_led).room s m args below meth c H locs 0 0 Q (F0 m 63 ls []) := by
    intro x3 sMo H locs ls hf hP hD hS hl
    unfold f_X11_led_63 at hf
    refine lv_aload_n hx hb dX11_led_63 rfl (lv_at hl 0 rfl) ?_
    refine lv_iconst (v := (0 : Int32)) hx hb dX11_led_64 (by decide) ?_
    refine va_put (D := D) (ci := 10) (v := .int (0 : Int32)) (ty := .int) (C := RX11) (T := TX11) (N := 41) hx hb hts iX11 tyX11 tyX11_ok nmX11 hown hK hP hD hS 0 o_Mo rfl 0 (by decide) (htl _ (mB7 _ (List.mem_of_getElem? (i := 7) rfl))) (fun _ h9 => h9) rfl (by decide +kernel) rfl rfl (Nat.le_of_ble_eq_true rfl) dX11_led_65 (fun H locs hP hD hS => ?_)
    have hP := cvP si_Mo_0 hP
    have hD := cvD si_Mo_0 hD
    obtain ⟨s17, es17⟩ : ∃ z, z = sI sMo 0 (0 : Int32) := ⟨_, rfl⟩
    have hP : va_P D vwCl (wMo K hMo s17) H := by rw [es17]; exact hP
    have hD : va_D A (wMo K hMo s17) := by rw [es17]; exact hD
    have hf := lz_s hf s17 es17
    refine lv_iload_n hx hb dX11_led_68 rfl (lv_at hl 1 rfl) ?_
    have e9 := Option.some.inj hf
    rw [hQ]
    exact W.iret (v := x3) hx hb hr (fun t ht hW => ⟨⟨x3, s17, rfl, ⟨pr1 e9, pr2 e9⟩, ⟨by rw [ht]; exact hP, va_K.moved hW.alike hK, hD⟩⟩, hS.F ht⟩) hS.2.2 dX11_led_69
  have w4 : ∀ (n : Nat), ∀ (x2 : Int32), ∀ (x3 : Int32), ∀ (sMo : MS), ∀ (H : Heap) (locs : List Loc) (ls : Array Slot), f_X11_led_4 F p1 n x2 x3 sMo = some res → va_P D vwCl (wMo K hMo sMo) H → va_D A (wMo K hMo sMo) → va_S A s.heap H locs → lv_has ls 4 [(0, .ref (hMo 99)), (1, .int p1), (2, .int x2), (3, .int x3)] → W p l e (headSpec wz_X11_led r_X11_led).room s m args below meth c H locs 0 0 Q (F0 m 4 ls []) := by
    intro n
    induction n with
    | zero =>
      intro x2 x3 sMo H locs ls hf
      exact absurd (show none = some res from hf) (fun h => nomatch h)
    | succ n ih =>
      intro x2 x3 sMo H locs ls hf hP hD hS hl
      rw [f_X11_led_4] at hf
      refine lv_aload_n hx hb dX11_led_4 rfl (lv_at hl 0 rfl) ?_
      refine va_get (D := D) (ci := 10) (v := .int (sMo.1 14)) (C := RX11) (T := TX11) (N := 41) hx hb hts iX11 hown hK hP 0 o_Mo rfl 14 (by decide) (htl _ (mB18 _ (List.mem_of_getElem? (i := 4) rfl))) (fun _ h9 => h9) rfl dX11_led_5 ?_
      refine lv_if_eq (tgt := 79) hx hb dX11_led_8 (by decide) (fun c1 => ?_) (fun c1 => ?_)
      · have hf := it_t hf c1
        exact w79 sMo H locs ls hf hP hD hS (lv_sub hl [0] rfl)
      · have hf := it_f hf c1
        refine lv_iload_n hx hb dX11_led_11 rfl (lv_at hl 3 rfl) ?_
        refine lv_aload_n hx hb dX11_led_12 rfl (lv_at hl 0 rfl) ?_
        refine va_get (D := D) (ci := 10) (v := .ref (hMo 15)) (C := RX11) (T := TX11) (N := 41) hx hb hts iX11 hown hK hP 0 o_Mo rfl 15 (by decide) (htl _ (mB6 _ (List.mem_of_getElem? (i := 3) rfl))) (fun _ h9 => h9) rfl dX11_led_13 ?_
        refine lv_iconst (v := (5 : Int32)) hx hb dX11_led_16 (by decide) ?_
        obtain ⟨g2, hf⟩ := gd_s hf
        refine va_iald hx hb hK hP 3 0 (f := sMo.2.2.1 15) a_Mo_15 rfl (vpb_in g2) dX11_led_17 ?_
        refine lv_topi (fun v3 ev3 => ?_)
        have hf := lz_s hf v3 ev3
        refine lv_icmp_ge (tgt := 79) hx hb dX11_led_18 (by decide) (fun c4 => ?_) (fun c4 => ?_)
        · have hf := it_t hf c4
          exact w79 sMo H locs ls hf hP hD hS (lv_sub hl [0] rfl)
        · have hf := it_f hf c4
          refine lv_aload_n hx hb dX11_led_21 rfl (lv_at hl 0 rfl) ?_
          refine lv_aload_n hx hb dX11_led_22 rfl (lv_at hl 0 rfl) ?_
          refine va_get (D := D) (ci := 10) (v := .ref (hMo 18)) (C := RX11) (T := TX11) (N := 41) hx hb hts iX11 hown hK hP 0 o_Mo rfl 18 (by decide) (htl _ (mB6 _ (List.mem_of_getElem? (i := 6) rfl))) (fun _ h9 => h9) rfl dX11_led_23 ?_
          refine lv_iconst (v := (0 : Int32)) hx hb dX11_led_26 (by decide) ?_
          obtain ⟨g5, hf⟩ := gd_s hf
          refine va_iald hx hb hK hP 6 0 (f := sMo.2.2.1 18) a_Mo_18 rfl (vpb_in g5) dX11_led_27 ?_
          refine lv_topi (fun v6 ev6 => ?_)
          have hf := lz_s hf v6 ev6
          refine lv_iload_n hx hb dX11_led_28 rfl (lv_at hl 3 rfl) ?_
          obtain ⟨o7, go7, hf⟩ := bd_s hf
          refine ro_Vi (As := [.int v6, .int x3]) (rest := []) ⟨hx, hb, hml, hown, hts⟩ (c_X11_roadOf l D K F hMo sMo v6 x3 o7 go7) (cwV 2 hts (gcV_X11_roadOf (mB25 _ (List.mem_of_getElem? (i := 11) rfl))) rfl rfl rfl hdV_X11_roadOf ⟨Nat.le_of_ble_eq_true rfl, Nat.le_of_ble_eq_true rfl⟩) hK hP hS hP (va_recv hK hP (ci := 10) (q0 := 0) rfl o_Mo) rfl hl.1 rfl (Nat.le_of_ble_eq_true rfl) dX11_led_29 ⟨Nat.zero_le _, Nat.zero_le _⟩ (fun H locs hP hS => ?_)
          refine lv_if_eq (tgt := 73) hx hb dX11_led_32 (by decide) (fun c8 => ?_) (fun c8 => ?_)
          · have hf := it_t hf c8
            exact w73 (f_X11_led_4 F p1 n) ih x2 x3 sMo H locs ls hf hP hD hS (lv_sub hl [0, 1, 2, 3] rfl)
          · have hf := it_f hf c8
            refine lv_aload_n hx hb dX11_led_35 rfl (lv_at hl 0 rfl) ?_
            refine lv_aload_n hx hb dX11_led_36 rfl (lv_at hl 0 rfl) ?_
            refine va_get (D := D) (ci := 10) (v := .ref (hMo 18)) (C := RX11) (T := TX11) (N := 41) hx hb hts iX11 hown hK hP 0 o_Mo rfl 18 (by decide) (htl _ (mB6 _ (List.mem_of_getElem? (i := 6) rfl))) (fun _ h9 => h9) rfl dX11_led_37 ?_
            refine lv_iconst (v := (0 : Int32)) hx hb dX11_led_40 (by decide) ?_
            obtain ⟨g9, hf⟩ := gd_s hf
            refine va_iald hx hb hK hP 6 0 (f := sMo.2.2.1 18) a_Mo_18 rfl (vpb_in g9) dX11_led_41 ?_
            refine lv_topi (fun v10 ev10 => ?_)
            have hf := lz_s hf v10 ev10
            refine lv_iload_n hx hb dX11_led_42 rfl (lv_at hl 3 rfl) ?_
            obtain ⟨o11, go11, hf⟩ := bd_s hf
            refine ro_Vi (As := [.int v10, .int x3]) (rest := []) ⟨hx, hb, hml, hown, hts⟩ (c_X11_roadOf l D K F hMo sMo v10 x3 o11 go11) (cwV 2 hts (gcV_X11_roadOf (mB25 _ (List.mem_of_getElem? (i := 11) rfl))) rfl rfl rfl hdV_X11_roadOf ⟨Nat.le_of_ble_eq_true rfl, Nat.le_of_ble_eq_true rfl⟩) hK hP hS hP (va_recv hK hP (ci := 10) (q0 := 0) rfl o_Mo) rfl hl.1 rfl (Nat.le_of_ble_eq_true rfl) dX11_led_43 ⟨Nat.zero_le _, Nat.zero_le _⟩ (fun H locs hP hS => ?_)
            refine lv_aload_n hx hb dX11_led_46 rfl (lv_at hl 0 rfl) ?_
            refine va_get (D := D) (ci := 10) (v := .ref (hMo 18)) (C := RX11) (T := TX11) (N := 41) hx hb hts iX11 hown hK hP 0 o_Mo rfl 18 (by decide) (htl _ (mB6 _ (List.mem_of_getElem? (i := 6) rfl))) (fun _ h9 => h9) rfl dX11_led_47 ?_
            refine lv_iconst (v := (1 : Int32)) hx hb dX11_led_50 (by decide) ?_
            obtain ⟨g12, hf⟩ := gd_s hf
            refine va_iald hx hb hK hP 6 0 (f := sMo.2.2.1 18) a_Mo_18 rfl (vpb_in g12) dX11_led_51 ?_
            refine lv_topi (fun v13 ev13 => ?_)
            have hf := lz_s hf v13 ev13
            refine lv_icmp_le (tgt := 58) hx hb dX11_led_52 (by decide) (fun c14 => ?_) (fun c14 => ?_)
            · have hf := it_t hf c14
              refine lv_iload_n hx hb dX11_led_58 rfl (lv_at hl 2 rfl) ?_
              refine lv_iload_n hx hb dX11_led_59 rfl (lv_at hl 1 rfl) ?_
              refine lv_icmp_ne (tgt := 70) hx hb dX11_led_60 (by decide) (fun c15 => ?_) (fun c15 => ?_)
              · have hf := it_f hf c15
                obtain ⟨v16, ev16⟩ : ∃ z : Int32, z = x2 + (1 : Int32) := ⟨_, rfl⟩
                have hf := lz_s hf v16 ev16
                refine lv_iinc (v := v16) (lv' := [(2, .int v16), (0, .ref (hMo 99)), (1, .int p1), (3, .int x3)]) hx hb dX11_led_70 hl (k := 2) rfl (by rw [ev16]; rfl) (by decide) rfl (fun ls hl => ?_)
                exact w73 (f_X11_led_4 F p1 n) ih v16 x3 sMo H locs ls hf hP hD hS (lv_sub hl [1, 2, 0, 3] rfl)
              · have hf := it_t hf c15
                exact w63 x3 sMo H locs ls hf hP hD hS (lv_sub hl [0, 3] rfl)
            · have hf := it_f hf c14
              refine lv_goto (tgt := 73) hx hb dX11_led_55 (by decide) ?_
              exact w73 (f_X11_led_4 F p1 n) ih x2 x3 sMo H locs ls hf hP hD hS (lv_sub hl [0, 1, 2, 3] rfl)
  have hen : entryFrame m args 4 = entryFrame m (([.ref (hMo 99), .int p1] : List Value).toArray) 4 := by rw [hargs]
  have hl := lv_entry ([.ref (hMo 99), .int p1]) (n := 4) (Nat.le_of_ble_eq_true rfl)
  rw [hen, lg_entry_eq]
  generalize (lg_sl ([.ref (hMo 99), .int p1]) ++ List.replicate (4 - (lg_sl ([.ref (hMo 99), .int p1])).length) Slot.unset).toArray = ls at hl ⊢
  have hl : lv_has ls 4 [(0, .ref (hMo 99)), (1, .int p1)] := hl
  unfold f_X11_led at hf
  obtain ⟨H, hHe⟩ : ∃ z, z = s.heap := ⟨_, rfl⟩
  obtain ⟨locs, hLe⟩ : ∃ z : List Loc, z = [] := ⟨_, rfl⟩
  rw [← hLe]
  have hS : va_S A s.heap H locs := by rw [hHe, hLe]; exact hS
  have hP : va_P D vwCl (wMo K hMo sMo) H := by rw [hHe]; exact hP
  have hgo : W p l e (headSpec wz_X11_led r_X11_led).room s m args below meth c H locs 0 0 Q (F0 m 0 ls []) := by
    refine lv_iconst (v := (0 : Int32)) hx hb dX11_led_0 (by decide) ?_
    refine lv_istore_n (lv' := [(2, .int (0 : Int32)), (0, .ref (hMo 99)), (1, .int p1)]) hx hb dX11_led_1 rfl hl (by decide) rfl (fun ls hl => ?_)
    refine lv_iconst (v := (0 : Int32)) hx hb dX11_led_2 (by decide) ?_
    refine lv_istore_n (lv' := [(3, .int (0 : Int32)), (2, .int (0 : Int32)), (0, .ref (hMo 99)), (1, .int p1)]) hx hb dX11_led_3 rfl hl (by decide) rfl (fun ls hl => ?_)
    exact w4 F (0 : Int32) (0 : Int32) sMo H locs ls hf hP hD hS (lv_sub hl [2, 3, 1, 0] rfl)
  rw [hHe] at hgo
  exact hgo

def wz_X11_size : List Cond := .code yX11_size cX11_size 2 (some .int) :: wsL_law
abbrev r_X11_size : Room := { frames := 1, cells := 0, slots := 0, locals := 22 }
set_option maxHeartbeats 4000000 in
set_option maxRecDepth 100000 in
theorem c_X11_size (l : Launch) (D : va_G) (K : Nat → ClassId) (F : Nat) (hMo : Nat → Nat) (sz : Nat) (sMo : MS) (p1 : Int32) (res : Int32 × MS) (hf : f_X11_size F p1 sMo = some res) : Met l yX11_size wz_X11_size r_X11_size (va_Pc [.ref (hMo 99), .int p1] (PW D K (wMo K hMo sMo) sz)) (va_Qi (fun r u => r = res.1 ∧ u = res.2) (fun u t => BW D K (va_A (wMo K hMo sMo) sz) (wMo K hMo u) t) (va_A (wMo K hMo sMo) sz)) 0 0 (va_A (wMo K hMo sMo) sz) := by
  refine Met.ofW (cc := cX11_size) (maxL := 2) (ret := (some .int)) (by decide) rfl ?_
  intro p e s m args below meth c s₁ B hml hv
  obtain ⟨hargs, hsz, hP, hK, hD0⟩ := hv
  have hx := B.exec
  have hb := B.bytes
  have hr := B.returns
  have hts := atoms_spec (ws := wz_X11_size) B.pre
  have htl : ∀ w ∈ wsL_law, w.before args s = true := fun w h => hts w (List.mem_cons_of_mem _ h)
  have hown : s.vm.findClass RX11 = some m.cls := findClass_of_methodNamed B.named
  have hlocks := B.notSynchronized
  subst hsz
  have hD := hD0.self (sz := s.heap.size)
  generalize hAe : va_A (wMo K hMo sMo) s.heap.size = A at hD ⊢
  have hA : ∀ q : Nat, s.heap.size ≤ q → A q := fun q h => by rw [← hAe]; exact Or.inr h
  have hS : va_S A s.heap s.heap [] := va_S.rf
  have iX11 : ∀ w ∈ wsX110, w ∈ wz_X11_size := fun w h => List.mem_cons_of_mem _ (inlX11 w h)
  suffices hgo : ∀ Q : State → Prop, Q = MQ below (va_Qi (fun r u => r = res.1 ∧ u = res.2) (fun u t => BW D K A (wMo K hMo u) t) A) args s 0 0 A → W p l e (headSpec wz_X11_size r_X11_size).room s m args below meth c s.heap [] 0 0 Q (entryFrame m args 2) from hgo _ rfl
  intro Q hQ
  have hen : entryFrame m args 2 = entryFrame m (([.ref (hMo 99), .int p1] : List Value).toArray) 2 := by rw [hargs]
  have hl := lv_entry ([.ref (hMo 99), .int p1]) (n := 2) (Nat.le_of_ble_eq_true rfl)
  rw [hen, lg_entry_eq]
  generalize (lg_sl ([.ref (hMo 99), .int p1]) ++ List.replicate (2 - (lg_sl ([.ref (hMo 99), .int p1])).length) Slot.unset).toArray = ls at hl ⊢
  have hl : lv_has ls 2 [(0, .ref (hMo 99)), (1, .int p1)] := hl
  unfold f_X11_size at hf
  obtain ⟨H, hHe⟩ : ∃ z, z = s.heap := ⟨_, rfl⟩
  obtain ⟨locs, hLe⟩ : ∃ z : List Loc, z = [] := ⟨_, rfl⟩
  rw [← hLe]
  have hS : va_S A s.heap H locs := by rw [hHe, hLe]; exact hS
  have hP : va_P D vwCl (wMo K hMo sMo) H := by rw [hHe]; exact hP
  have hgo : W p l e (headSpec wz_X11_size r_X11_size).room s m args below meth c H locs 0 0 Q (F0 m 0 ls []) := by
    refine lv_aload_n hx hb dX11_size_0 rfl (lv_at hl 0 rfl) ?_
    refine lv_iconst (v := (0 : Int32)) hx hb dX11_size_1 (by decide) ?_
    refine va_put (D := D) (ci := 10) (v := .int (0 : Int32)) (ty := .int) (C := RX11) (T := TX11) (N := 41) hx hb hts iX11 tyX11 tyX11_ok nmX11 hown hK hP hD hS 0 o_Mo rfl 0 (by decide) (htl _ (mB7 _ (List.mem_of_getElem? (i := 7) rfl))) (fun _ h9 => h9) rfl (by decide +kernel) rfl rfl (Nat.le_of_ble_eq_true rfl) dX11_size_2 (fun H locs hP hD hS => ?_)
    have hP := cvP si_Mo_0 hP
    have hD := cvD si_Mo_0 hD
    obtain ⟨s1, es1⟩ : ∃ z, z = sI sMo 0 (0 : Int32) := ⟨_, rfl⟩
    have hP : va_P D vwCl (wMo K hMo s1) H := by rw [es1]; exact hP
    have hD : va_D A (wMo K hMo s1) := by rw [es1]; exact hD
    have hf := lz_s hf s1 es1
    refine lv_iload_n hx hb dX11_size_5 rfl (lv_at hl 1 rfl) ?_
    refine lv_bipush (v := (13 : Int32)) hx hb dX11_size_6 (by decide) ?_
    refine lv_icmp_ne (tgt := 16) hx hb dX11_size_8 (by decide) (fun c2 => ?_) (fun c2 => ?_)
    · have hf := it_f hf c2
      refine lv_aload_n hx hb dX11_size_16 rfl (lv_at hl 0 rfl) ?_
      refine va_get (D := D) (ci := 10) (v := .int (s1.1 14)) (C := RX11) (T := TX11) (N := 41) hx hb hts iX11 hown hK hP 0 o_Mo rfl 14 (by decide) (htl _ (mB18 _ (List.mem_of_getElem? (i := 4) rfl))) (fun _ h9 => h9) rfl dX11_size_17 ?_
      refine lv_if_ne (tgt := 39) hx hb dX11_size_20 (by decide) (fun c3 => ?_) (fun c3 => ?_)
      · have hf := it_f hf c3
        refine lv_iload_n hx hb dX11_size_39 rfl (lv_at hl 1 rfl) ?_
        refine lv_iconst (v := (0 : Int32)) hx hb dX11_size_40 (by decide) ?_
        refine lv_bipush (v := (9 : Int32)) hx hb dX11_size_41 (by decide) ?_
        obtain ⟨o4, go4, hf⟩ := bd_s hf
        refine ro_Si (As := [.int p1, .int (0 : Int32), .int (9 : Int32)]) (rest := []) ⟨hx, hb, hml, hown, hts⟩ (c_X11_in l D K F p1 (0 : Int32) (9 : Int32) o4 go4) (va_cwS 3 hts (gcS_X11_in (mB18 _ (List.mem_of_getElem? (i := 12) rfl))) rfl rfl rfl hdS_X11_in ⟨Nat.le_of_ble_eq_true rfl, Nat.le_of_ble_eq_true rfl⟩) hK hP hS va_Pnil rfl hl.1 rfl (Nat.le_of_ble_eq_true rfl) dX11_size_43 ⟨Nat.zero_le _, Nat.zero_le _⟩ (fun H locs hP hS => ?_)
        refine lv_if_eq (tgt := 56) hx hb dX11_size_46 (by decide) (fun c5 => ?_) (fun c5 => ?_)
        · have hf := it_t hf c5
          refine lv_iload_n hx hb dX11_size_56 rfl (lv_at hl 1 rfl) ?_
          refine lv_bipush (v := (10 : Int32)) hx hb dX11_size_57 (by decide) ?_
          refine lv_icmp_ne (tgt := 72) hx hb dX11_size_59 (by decide) (fun c6 => ?_) (fun c6 => ?_)
          · have hf := it_f hf c6
            refine lv_iload_n hx hb dX11_size_72 rfl (lv_at hl 1 rfl) ?_
            refine lv_bipush (v := (11 : Int32)) hx hb dX11_size_73 (by decide) ?_
            refine lv_icmp_ne (tgt := 85) hx hb dX11_size_75 (by decide) (fun c7 => ?_) (fun c7 => ?_)
            · have hf := it_f hf c7
              refine lv_iload_n hx hb dX11_size_85 rfl (lv_at hl 1 rfl) ?_
              refine lv_bipush (v := (12 : Int32)) hx hb dX11_size_86 (by decide) ?_
              refine lv_icmp_ne (tgt := 98) hx hb dX11_size_88 (by decide) (fun c8 => ?_) (fun c8 => ?_)
              · have hf := it_f hf c8
                refine lv_iconst (v := (-1 : Int32)) hx hb dX11_size_98 (by decide) ?_
                have e9 := Option.some.inj hf
                rw [hQ]
                exact W.iret (v := (-1 : Int32)) hx hb hr (fun t ht hW => ⟨⟨(-1 : Int32), s1, rfl, ⟨pr1 e9, pr2 e9⟩, ⟨by rw [ht]; exact hP, va_K.moved hW.alike hK, hD⟩⟩, hS.F ht⟩) hS.2.2 dX11_size_99
              · have hf := it_t hf c8
                refine lv_aload_n hx hb dX11_size_91 rfl (lv_at hl 0 rfl) ?_
                refine va_get (D := D) (ci := 10) (v := .int (s1.1 22)) (C := RX11) (T := TX11) (N := 41) hx hb hts iX11 hown hK hP 0 o_Mo rfl 22 (by decide) (htl _ (mB18 _ (List.mem_of_getElem? (i := 6) rfl))) (fun _ h9 => h9) rfl dX11_size_92 ?_
                refine lv_goto (tgt := 99) hx hb dX11_size_95 (by decide) ?_
                have e9 := Option.some.inj hf
                rw [hQ]
                exact W.iret (v := (s1.1 22)) hx hb hr (fun t ht hW => ⟨⟨(s1.1 22), s1, rfl, ⟨pr1 e9, pr2 e9⟩, ⟨by rw [ht]; exact hP, va_K.moved hW.alike hK, hD⟩⟩, hS.F ht⟩) hS.2.2 dX11_size_99
            · have hf := it_t hf c7
              refine lv_aload_n hx hb dX11_size_78 rfl (lv_at hl 0 rfl) ?_
              refine va_get (D := D) (ci := 10) (v := .int (s1.1 21)) (C := RX11) (T := TX11) (N := 41) hx hb hts iX11 hown hK hP 0 o_Mo rfl 21 (by decide) (htl _ (mB18 _ (List.mem_of_getElem? (i := 5) rfl))) (fun _ h9 => h9) rfl dX11_size_79 ?_
              refine lv_goto (tgt := 99) hx hb dX11_size_82 (by decide) ?_
              have e9 := Option.some.inj hf
              rw [hQ]
              exact W.iret (v := (s1.1 21)) hx hb hr (fun t ht hW => ⟨⟨(s1.1 21), s1, rfl, ⟨pr1 e9, pr2 e9⟩, ⟨by rw [ht]; exact hP, va_K.moved hW.alike hK, hD⟩⟩, hS.F ht⟩) hS.2.2 dX11_size_99
          · have hf := it_t hf c6
            refine lv_aload_n hx hb dX11_size_62 rfl (lv_at hl 0 rfl) ?_
            refine va_get (D := D) (ci := 10) (v := .ref (hMo 18)) (C := RX11) (T := TX11) (N := 41) hx hb hts iX11 hown hK hP 0 o_Mo rfl 18 (by decide) (htl _ (mB6 _ (List.mem_of_getElem? (i := 6) rfl))) (fun _ h9 => h9) rfl dX11_size_63 ?_
            refine lv_bipush (v := (6 : Int32)) hx hb dX11_size_66 (by decide) ?_
            obtain ⟨g9, hf⟩ := gd_s hf
            refine va_iald hx hb hK hP 6 0 (f := s1.2.2.1 18) a_Mo_18 rfl (vpb_in g9) dX11_size_68 ?_
            refine lv_topi (fun v10 ev10 => ?_)
            have hf := lz_s hf v10 ev10
            refine lv_goto (tgt := 99) hx hb dX11_size_69 (by decide) ?_
            have e9 := Option.some.inj hf
            rw [hQ]
            exact W.iret (v := v10) hx hb hr (fun t ht hW => ⟨⟨v10, s1, rfl, ⟨pr1 e9, pr2 e9⟩, ⟨by rw [ht]; exact hP, va_K.moved hW.alike hK, hD⟩⟩, hS.F ht⟩) hS.2.2 dX11_size_99
        · have hf := it_f hf c5
          refine lv_aload_n hx hb dX11_size_49 rfl (lv_at hl 0 rfl) ?_
          refine va_get (D := D) (ci := 10) (v := .ref (hMo 15)) (C := RX11) (T := TX11) (N := 41) hx hb hts iX11 hown hK hP 0 o_Mo rfl 15 (by decide) (htl _ (mB6 _ (List.mem_of_getElem? (i := 3) rfl))) (fun _ h9 => h9) rfl dX11_size_50 ?_
          refine lv_iload_n hx hb dX11_size_53 rfl (lv_at hl 1 rfl) ?_
          obtain ⟨g11, hf⟩ := gd_s hf
          refine va_iald hx hb hK hP 3 0 (f := s1.2.2.1 15) a_Mo_15 rfl (vpb_in g11) dX11_size_54 ?_
          have e9 := Option.some.inj hf
          rw [hQ]
          exact W.iret (v := (s1.2.2.1 15 p1.toNatClampNeg)) hx hb hr (fun t ht hW => ⟨⟨(s1.2.2.1 15 p1.toNatClampNeg), s1, rfl, ⟨pr1 e9, pr2 e9⟩, ⟨by rw [ht]; exact hP, va_K.moved hW.alike hK, hD⟩⟩, hS.F ht⟩) hS.2.2 dX11_size_55
      · have hf := it_t hf c3
        refine lv_iload_n hx hb dX11_size_23 rfl (lv_at hl 1 rfl) ?_
        refine lv_iconst (v := (0 : Int32)) hx hb dX11_size_24 (by decide) ?_
        refine lv_bipush (v := (12 : Int32)) hx hb dX11_size_25 (by decide) ?_
        obtain ⟨o12, go12, hf⟩ := bd_s hf
        refine ro_Si (As := [.int p1, .int (0 : Int32), .int (12 : Int32)]) (rest := []) ⟨hx, hb, hml, hown, hts⟩ (c_X11_in l D K F p1 (0 : Int32) (12 : Int32) o12 go12) (va_cwS 3 hts (gcS_X11_in (mB18 _ (List.mem_of_getElem? (i := 12) rfl))) rfl rfl rfl hdS_X11_in ⟨Nat.le_of_ble_eq_true rfl, Nat.le_of_ble_eq_true rfl⟩) hK hP hS va_Pnil rfl hl.1 rfl (Nat.le_of_ble_eq_true rfl) dX11_size_27 ⟨Nat.zero_le _, Nat.zero_le _⟩ (fun H locs hP hS => ?_)
        refine lv_if_eq (tgt := 37) hx hb dX11_size_30 (by decide) (fun c13 => ?_) (fun c13 => ?_)
        · have hf := it_t hf c13
          refine lv_iconst (v := (-1 : Int32)) hx hb dX11_size_37 (by decide) ?_
          have e9 := Option.some.inj hf
          rw [hQ]
          exact W.iret (v := (-1 : Int32)) hx hb hr (fun t ht hW => ⟨⟨(-1 : Int32), s1, rfl, ⟨pr1 e9, pr2 e9⟩, ⟨by rw [ht]; exact hP, va_K.moved hW.alike hK, hD⟩⟩, hS.F ht⟩) hS.2.2 dX11_size_38
        · have hf := it_f hf c13
          refine lv_iconst (v := (0 : Int32)) hx hb dX11_size_33 (by decide) ?_
          refine lv_goto (tgt := 38) hx hb dX11_size_34 (by decide) ?_
          have e9 := Option.some.inj hf
          rw [hQ]
          exact W.iret (v := (0 : Int32)) hx hb hr (fun t ht hW => ⟨⟨(0 : Int32), s1, rfl, ⟨pr1 e9, pr2 e9⟩, ⟨by rw [ht]; exact hP, va_K.moved hW.alike hK, hD⟩⟩, hS.F ht⟩) hS.2.2 dX11_size_38
    · have hf := it_t hf c2
      refine lv_aload_n hx hb dX11_size_11 rfl (lv_at hl 0 rfl) ?_
      refine va_get (D := D) (ci := 10) (v := .int (s1.1 2)) (C := RX11) (T := TX11) (N := 41) hx hb hts iX11 hown hK hP 0 o_Mo rfl 2 (by decide) (htl _ (mB7 _ (List.mem_of_getElem? (i := 8) rfl))) (fun _ h9 => h9) rfl dX11_size_12 ?_
      have e9 := Option.some.inj hf
      rw [hQ]
      exact W.iret (v := (s1.1 2)) hx hb hr (fun t ht hW => ⟨⟨(s1.1 2), s1, rfl, ⟨pr1 e9, pr2 e9⟩, ⟨by rw [ht]; exact hP, va_K.moved hW.alike hK, hD⟩⟩, hS.F ht⟩) hS.2.2 dX11_size_15
  rw [hHe] at hgo
  exact hgo

def wz_X11_trouble : List Cond := .code yX11_trouble cX11_trouble 1 (some .int) :: wsL_law
abbrev r_X11_trouble : Room := { frames := 0, cells := 0, slots := 0, locals := 0 }
set_option maxHeartbeats 4000000 in
set_option maxRecDepth 100000 in
theorem c_X11_trouble (l : Launch) (D : va_G) (K : Nat → ClassId) (F : Nat) (hMo : Nat → Nat) (sz : Nat) (sMo : MS) (res : Int32 × MS) (hf : f_X11_trouble F sMo = some res) : Met l yX11_trouble wz_X11_trouble r_X11_trouble (va_Pc [.ref (hMo 99)] (PW D K (wMo K hMo sMo) sz)) (va_Qi (fun r u => r = res.1 ∧ u = res.2) (fun u t => BW D K (va_A (wMo K hMo sMo) sz) (wMo K hMo u) t) (va_A (wMo K hMo sMo) sz)) 0 0 (va_A (wMo K hMo sMo) sz) := by
  refine Met.ofW (cc := cX11_trouble) (maxL := 1) (ret := (some .int)) (by decide) rfl ?_
  intro p e s m args below meth c s₁ B hml hv
  obtain ⟨hargs, hsz, hP, hK, hD0⟩ := hv
  have hx := B.exec
  have hb := B.bytes
  have hr := B.returns
  have hts := atoms_spec (ws := wz_X11_trouble) B.pre
  have htl : ∀ w ∈ wsL_law, w.before args s = true := fun w h => hts w (List.mem_cons_of_mem _ h)
  have hown : s.vm.findClass RX11 = some m.cls := findClass_of_methodNamed B.named
  have hlocks := B.notSynchronized
  subst hsz
  have hD := hD0.self (sz := s.heap.size)
  generalize hAe : va_A (wMo K hMo sMo) s.heap.size = A at hD ⊢
  have hA : ∀ q : Nat, s.heap.size ≤ q → A q := fun q h => by rw [← hAe]; exact Or.inr h
  have hS : va_S A s.heap s.heap [] := va_S.rf
  have iX11 : ∀ w ∈ wsX110, w ∈ wz_X11_trouble := fun w h => List.mem_cons_of_mem _ (inlX11 w h)
  suffices hgo : ∀ Q : State → Prop, Q = MQ below (va_Qi (fun r u => r = res.1 ∧ u = res.2) (fun u t => BW D K A (wMo K hMo u) t) A) args s 0 0 A → W p l e (headSpec wz_X11_trouble r_X11_trouble).room s m args below meth c s.heap [] 0 0 Q (entryFrame m args 1) from hgo _ rfl
  intro Q hQ
  have hen : entryFrame m args 1 = entryFrame m (([.ref (hMo 99)] : List Value).toArray) 1 := by rw [hargs]
  have hl := lv_entry ([.ref (hMo 99)]) (n := 1) (Nat.le_of_ble_eq_true rfl)
  rw [hen, lg_entry_eq]
  generalize (lg_sl ([.ref (hMo 99)]) ++ List.replicate (1 - (lg_sl ([.ref (hMo 99)])).length) Slot.unset).toArray = ls at hl ⊢
  have hl : lv_has ls 1 [(0, .ref (hMo 99))] := hl
  unfold f_X11_trouble at hf
  obtain ⟨H, hHe⟩ : ∃ z, z = s.heap := ⟨_, rfl⟩
  obtain ⟨locs, hLe⟩ : ∃ z : List Loc, z = [] := ⟨_, rfl⟩
  rw [← hLe]
  have hS : va_S A s.heap H locs := by rw [hHe, hLe]; exact hS
  have hP : va_P D vwCl (wMo K hMo sMo) H := by rw [hHe]; exact hP
  have hgo : W p l e (headSpec wz_X11_trouble r_X11_trouble).room s m args below meth c H locs 0 0 Q (F0 m 0 ls []) := by
    refine lv_aload_n hx hb dX11_trouble_0 rfl (lv_at hl 0 rfl) ?_
    refine lv_iconst (v := (0 : Int32)) hx hb dX11_trouble_1 (by decide) ?_
    refine va_put (D := D) (ci := 10) (v := .int (0 : Int32)) (ty := .int) (C := RX11) (T := TX11) (N := 41) hx hb hts iX11 tyX11 tyX11_ok nmX11 hown hK hP hD hS 0 o_Mo rfl 0 (by decide) (htl _ (mB7 _ (List.mem_of_getElem? (i := 7) rfl))) (fun _ h9 => h9) rfl (by decide +kernel) rfl rfl (Nat.le_of_ble_eq_true rfl) dX11_trouble_2 (fun H locs hP hD hS => ?_)
    have hP := cvP si_Mo_0 hP
    have hD := cvD si_Mo_0 hD
    obtain ⟨s1, es1⟩ : ∃ z, z = sI sMo 0 (0 : Int32) := ⟨_, rfl⟩
    have hP : va_P D vwCl (wMo K hMo s1) H := by rw [es1]; exact hP
    have hD : va_D A (wMo K hMo s1) := by rw [es1]; exact hD
    have hf := lz_s hf s1 es1
    refine lv_aload_n hx hb dX11_trouble_5 rfl (lv_at hl 0 rfl) ?_
    refine va_get (D := D) (ci := 10) (v := .int (s1.1 11)) (C := RX11) (T := TX11) (N := 41) hx hb hts iX11 hown hK hP 0 o_Mo rfl 11 (by decide) (htl _ (mB18 _ (List.mem_of_getElem? (i := 11) rfl))) (fun _ h9 => h9) rfl dX11_trouble_6 ?_
    have e9 := Option.some.inj hf
    rw [hQ]
    exact W.iret (v := (s1.1 11)) hx hb hr (fun t ht hW => ⟨⟨(s1.1 11), s1, rfl, ⟨pr1 e9, pr2 e9⟩, ⟨by rw [ht]; exact hP, va_K.moved hW.alike hK, hD⟩⟩, hS.F ht⟩) hS.2.2 dX11_trouble_9
  rw [hHe] at hgo
  exact hgo
