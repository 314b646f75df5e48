def wz_X11_lastStation : List Cond := .code yX11_lastStation cX11_lastStation 1 (some .int) :: wsL_law
abbrev r_X11_lastStation : Room := { frames := 0, cells := 0, slots := 0, locals := 0 }
set_option maxHeartbeats 4000000 in
set_option maxRecDepth 100000 in
theorem c_X11_lastStation (l : Launch) (D : va_G) (K : Nat → ClassId) (F : Nat) (hMo : Nat → Nat) (sMo : MS) (res : Int32) (hf : f_X11_lastStation F sMo = some res) : Met l yX11_lastStation wz_X11_lastStation r_X11_lastStation (va_Pc [.ref (hMo 99)] (PR D K (wMo K hMo sMo))) (va_Qi (fun r (_ : Unit) => r = res) BN nOne) 0 0 nOne := by
  refine Met.ofW (cc := cX11_lastStation) (maxL := 1) (ret := (some .int)) (by decide) rfl ?_
  intro p e s m args below meth c s₁ B hml hv
  obtain ⟨hargs, hP, hK⟩ := hv
  have hx := B.exec
  have hb := B.bytes
  have hr := B.returns
  have hts := atoms_spec (ws := wz_X11_lastStation) B.pre
  have htl : ∀ w ∈ wsL_law, w.before args s = true := fun w h => hts w (List.mem_cons_of_mem _ h)
  have hown : s.vm.findClass RX11 = some m.cls := findClass_of_methodNamed B.named
  have hlocks := B.notSynchronized
  have hS : va_S nOne s.heap s.heap [] := va_S.rf
  have iX11 : ∀ w ∈ wsX110, w ∈ wz_X11_lastStation := fun w h => List.mem_cons_of_mem _ (inlX11 w h)
  suffices hgo : ∀ Q : State → Prop, Q = MQ below (va_Qi (fun r (_ : Unit) => r = res) BN nOne) args s 0 0 nOne → W p l e (headSpec wz_X11_lastStation r_X11_lastStation).room s m args below meth c s.heap [] 0 0 Q (entryFrame m args 1) from hgo _ rfl
  intro Q hQ
  have hen : entryFrame m args 1 = entryFrame m (([.ref (hMo 99)] : List Value).toArray) 1 := by rw [hargs]
  have hl := lv_entry ([.ref (hMo 99)]) (n := 1) (Nat.le_of_ble_eq_true rfl)
  rw [hen, lg_entry_eq]
  generalize (lg_sl ([.ref (hMo 99)]) ++ List.replicate (1 - (lg_sl ([.ref (hMo 99)])).length) Slot.unset).toArray = ls at hl ⊢
  have hl : lv_has ls 1 [(0, .ref (hMo 99))] := hl
  unfold f_X11_lastStation at hf
  obtain ⟨H, hHe⟩ : ∃ z, z = s.heap := ⟨_, rfl⟩
  obtain ⟨locs, hLe⟩ : ∃ z : List Loc, z = [] := ⟨_, rfl⟩
  rw [← hLe]
  have hS : va_S nOne s.heap H locs := by rw [hHe, hLe]; exact hS
  have hP : va_P D vwCl (wMo K hMo sMo) H := by rw [hHe]; exact hP
  have hgo : W p l e (headSpec wz_X11_lastStation r_X11_lastStation).room s m args below meth c H locs 0 0 Q (F0 m 0 ls []) := by
    refine lv_aload_n hx hb dX11_lastStation_0 rfl (lv_at hl 0 rfl) ?_
    refine va_get (D := D) (ci := 10) (v := .ref (hMo 15)) (C := RX11) (T := TX11) (N := 41) hx hb hts iX11 hown hK hP 0 o_Mo rfl 15 (by decide) (htl _ (mB6 _ (List.mem_of_getElem? (i := 3) rfl))) (fun _ h9 => h9) rfl dX11_lastStation_1 ?_
    refine lv_bipush (v := (8 : Int32)) hx hb dX11_lastStation_4 (by decide) ?_
    obtain ⟨g1, hf⟩ := gd_s hf
    refine va_iald hx hb hK hP 3 0 (f := sMo.2.2.1 15) a_Mo_15 rfl (vpb_in g1) dX11_lastStation_6 ?_
    refine lv_topi (fun v2 ev2 => ?_)
    have hf := lz_s hf v2 ev2
    refine lv_iconst (v := (1 : Int32)) hx hb dX11_lastStation_7 (by decide) ?_
    refine lv_isub hx hb dX11_lastStation_8 ?_
    have e9 := Option.some.inj hf
    rw [hQ]
    exact W.iret (v := (v2 - (1 : Int32))) hx hb hr (fun t ht hW => ⟨⟨(v2 - (1 : Int32)), (), rfl, e9, trivial⟩, hS.F ht⟩) hS.2.2 dX11_lastStation_9
  rw [hHe] at hgo
  exact hgo

theorem gcV_X11_isStation {T0 : Cond} {own : String} {i : Nat} (h : Cond.methodLink own i yX11_isStation ∈ wsL_law) : GoodIn (T0 :: wsL_law) (wsV own i RX11 yX11_isStation wz_X11_isStation) := gV h (mB26 _ (List.mem_of_getElem? (i := 16) rfl)) (mB26 _ (List.mem_of_getElem? (i := 17) rfl)) (mB1 _ (List.mem_of_getElem? (i := 5) rfl)) (mB26 _ (List.mem_of_getElem? (i := 18) rfl))
theorem hdV_X11_isStation : yX11_isStation.cls = RX11 ∧ yX11_isStation.cls ≠ "java/lang/invoke/MethodHandle" ∧ yX11_isStation.cls ≠ "java/lang/invoke/VarHandle" ∧ (parseMethodDescriptor yX11_isStation.desc).map (fun d => d.parameters.length) = some 1 := by decide +kernel
theorem gcV_X11_lastStation {T0 : Cond} {own : String} {i : Nat} (h : Cond.methodLink own i yX11_lastStation ∈ wsL_law) : GoodIn (T0 :: wsL_law) (wsV own i RX11 yX11_lastStation wz_X11_lastStation) := gV h (mB28 _ (List.mem_of_getElem? (i := 12) rfl)) (mB28 _ (List.mem_of_getElem? (i := 13) rfl)) (mB1 _ (List.mem_of_getElem? (i := 5) rfl)) (mB28 _ (List.mem_of_getElem? (i := 14) rfl))
theorem hdV_X11_lastStation : yX11_lastStation.cls = RX11 ∧ yX11_lastStation.cls ≠ "java/lang/invoke/MethodHandle" ∧ yX11_lastStation.cls ≠ "java/lang/invoke/VarHandle" ∧ (parseMethodDescriptor yX11_lastStation.desc).map (fun d => d.parameters.length) = some 0 := by decide +kernel
def wz_X11_isStop : List Cond := .code yX11_isStop cX11_isStop 2 (some .boolean) :: wsL_law
abbrev r_X11_isStop : Room := { frames := 2, cells := 0, slots := 0, locals := 43 }
set_option maxHeartbeats 4000000 in
set_option maxRecDepth 100000 in
theorem c_X11_isStop (l : Launch) (D : va_G) (K : Nat → ClassId) (F : Nat) (hMo : Nat → Nat) (sMo : MS) (p1 : Int32) (res : Int32) (hf : f_X11_isStop F sMo p1 = some res) : Met l yX11_isStop wz_X11_isStop r_X11_isStop (va_Pc [.ref (hMo 99), .int p1] (PR D K (wMo K hMo sMo))) (va_Qi (fun r (_ : Unit) => r = res) BN nOne) 0 0 nOne := by
  refine Met.ofW (cc := cX11_isStop) (maxL := 2) (ret := (some .boolean)) (by decide) rfl ?_
  intro p e s m args below meth c s₁ B hml hv
  obtain ⟨hargs, hP, hK⟩ := hv
  have hx := B.exec
  have hb := B.bytes
  have hr := B.returns
  have hts := atoms_spec (ws := wz_X11_isStop) B.pre
  have htl : ∀ w ∈ wsL_law, w.before args s = true := fun w h => hts w (List.mem_cons_of_mem _ h)
  have hown : s.vm.findClass RX11 = some m.cls := findClass_of_methodNamed B.named
  have hlocks := B.notSynchronized
  have hS : va_S nOne s.heap s.heap [] := va_S.rf
  suffices hgo : ∀ Q : State → Prop, Q = MQ below (va_Qi (fun r (_ : Unit) => r = res) BN nOne) args s 0 0 nOne → W p l e (headSpec wz_X11_isStop r_X11_isStop).room s m args below meth c s.heap [] 0 0 Q (entryFrame m args 2) from hgo _ rfl
  intro Q hQ
  have hen : entryFrame m args 2 = entryFrame m (([.ref (hMo 99), .int p1] : List Value).toArray) 2 := by rw [hargs]
  have hl := lv_entry ([.ref (hMo 99), .int p1]) (n := 2) (Nat.le_of_ble_eq_true rfl)
  rw [hen, lg_entry_eq]
  generalize (lg_sl ([.ref (hMo 99), .int p1]) ++ List.replicate (2 - (lg_sl ([.ref (hMo 99), .int p1])).length) Slot.unset).toArray = ls at hl ⊢
  have hl : lv_has ls 2 [(0, .ref (hMo 99)), (1, .int p1)] := hl
  unfold f_X11_isStop at hf
  obtain ⟨H, hHe⟩ : ∃ z, z = s.heap := ⟨_, rfl⟩
  obtain ⟨locs, hLe⟩ : ∃ z : List Loc, z = [] := ⟨_, rfl⟩
  rw [← hLe]
  have hS : va_S nOne s.heap H locs := by rw [hHe, hLe]; exact hS
  have hP : va_P D vwCl (wMo K hMo sMo) H := by rw [hHe]; exact hP
  have hgo : W p l e (headSpec wz_X11_isStop r_X11_isStop).room s m args below meth c H locs 0 0 Q (F0 m 0 ls []) := by
    refine lv_aload_n hx hb dX11_isStop_0 rfl (lv_at hl 0 rfl) ?_
    refine lv_iload_n hx hb dX11_isStop_1 rfl (lv_at hl 1 rfl) ?_
    obtain ⟨o1, go1, hf⟩ := bd_s hf
    refine ro_Vi (As := [.int p1]) (rest := []) ⟨hx, hb, hml, hown, hts⟩ (c_X11_isStation l D K F hMo sMo p1 o1 go1) (cwV 1 hts (gcV_X11_isStation (mB26 _ (List.mem_of_getElem? (i := 15) rfl))) rfl rfl rfl hdV_X11_isStation ⟨Nat.le_of_ble_eq_true rfl, Nat.le_of_ble_eq_true rfl⟩) hK hP hS hP (va_recv hK hP (ci := 10) (q0 := 0) rfl o_Mo) rfl hl.1 rfl (Nat.le_of_ble_eq_true rfl) dX11_isStop_2 ⟨Nat.zero_le _, Nat.zero_le _⟩ (fun H locs hP hS => ?_)
    refine lv_if_eq (tgt := 20) hx hb dX11_isStop_5 (by decide) (fun c2 => ?_) (fun c2 => ?_)
    · have hf := it_t hf c2
      refine lv_iconst (v := (0 : Int32)) hx hb dX11_isStop_20 (by decide) ?_
      have e9 := Option.some.inj hf
      rw [hQ]
      exact W.zret (v := (0 : Int32)) hx hb hr rfl (fun t ht hW => ⟨⟨(0 : Int32), (), rfl, e9, trivial⟩, hS.F ht⟩) hS.2.2 dX11_isStop_21
    · have hf := it_f hf c2
      refine lv_iload_n hx hb dX11_isStop_8 rfl (lv_at hl 1 rfl) ?_
      refine lv_aload_n hx hb dX11_isStop_9 rfl (lv_at hl 0 rfl) ?_
      obtain ⟨o3, go3, hf⟩ := bd_s hf
      refine ro_Vi (As := []) (rest := [.int p1]) ⟨hx, hb, hml, hown, hts⟩ (c_X11_lastStation l D K F hMo sMo o3 go3) (cwV 0 hts (gcV_X11_lastStation (mB28 _ (List.mem_of_getElem? (i := 11) rfl))) rfl rfl rfl hdV_X11_lastStation ⟨Nat.le_of_ble_eq_true rfl, Nat.le_of_ble_eq_true rfl⟩) hK hP hS hP (va_recv hK hP (ci := 10) (q0 := 0) rfl o_Mo) rfl hl.1 rfl (Nat.le_of_ble_eq_true rfl) dX11_isStop_10 ⟨Nat.zero_le _, Nat.zero_le _⟩ (fun H locs hP hS => ?_)
      refine lv_icmp_ge (tgt := 20) hx hb dX11_isStop_13 (by decide) (fun c4 => ?_) (fun c4 => ?_)
      · have hf := it_t hf c4
        refine lv_iconst (v := (0 : Int32)) hx hb dX11_isStop_20 (by decide) ?_
        have e9 := Option.some.inj hf
        rw [hQ]
        exact W.zret (v := (0 : Int32)) hx hb hr rfl (fun t ht hW => ⟨⟨(0 : Int32), (), rfl, e9, trivial⟩, hS.F ht⟩) hS.2.2 dX11_isStop_21
      · have hf := it_f hf c4
        refine lv_iconst (v := (1 : Int32)) hx hb dX11_isStop_16 (by decide) ?_
        refine lv_goto (tgt := 21) hx hb dX11_isStop_17 (by decide) ?_
        have e9 := Option.some.inj hf
        rw [hQ]
        exact W.zret (v := (1 : Int32)) hx hb hr rfl (fun t ht hW => ⟨⟨(1 : Int32), (), rfl, e9, trivial⟩, hS.F ht⟩) hS.2.2 dX11_isStop_21
  rw [hHe] at hgo
  exact hgo

def wz_X11_isRule : List Cond := .code yX11_isRule cX11_isRule 2 (some .boolean) :: wsL_law
abbrev r_X11_isRule : Room := { frames := 1, cells := 0, slots := 0, locals := 22 }
set_option maxHeartbeats 4000000 in
set_option maxRecDepth 100000 in
theorem c_X11_isRule (l : Launch) (D : va_G) (K : Nat → ClassId) (F : Nat) (hMo : Nat → Nat) (sMo : MS) (p1 : Int32) (res : Int32) (hf : f_X11_isRule F sMo p1 = some res) : Met l yX11_isRule wz_X11_isRule r_X11_isRule (va_Pc [.ref (hMo 99), .int p1] (PR D K (wMo K hMo sMo))) (va_Qi (fun r (_ : Unit) => r = res) BN nOne) 0 0 nOne := by
  refine Met.ofW (cc := cX11_isRule) (maxL := 2) (ret := (some .boolean)) (by decide) rfl ?_
  intro p e s m args below meth c s₁ B hml hv
  obtain ⟨hargs, hP, hK⟩ := hv
  have hx := B.exec
  have hb := B.bytes
  have hr := B.returns
  have hts := atoms_spec (ws := wz_X11_isRule) B.pre
  have htl : ∀ w ∈ wsL_law, w.before args s = true := fun w h => hts w (List.mem_cons_of_mem _ h)
  have hown : s.vm.findClass RX11 = some m.cls := findClass_of_methodNamed B.named
  have hlocks := B.notSynchronized
  have hS : va_S nOne s.heap s.heap [] := va_S.rf
  have iX11 : ∀ w ∈ wsX110, w ∈ wz_X11_isRule := fun w h => List.mem_cons_of_mem _ (inlX11 w h)
  suffices hgo : ∀ Q : State → Prop, Q = MQ below (va_Qi (fun r (_ : Unit) => r = res) BN nOne) args s 0 0 nOne → W p l e (headSpec wz_X11_isRule r_X11_isRule).room s m args below meth c s.heap [] 0 0 Q (entryFrame m args 2) from hgo _ rfl
  intro Q hQ
  have hen : entryFrame m args 2 = entryFrame m (([.ref (hMo 99), .int p1] : List Value).toArray) 2 := by rw [hargs]
  have hl := lv_entry ([.ref (hMo 99), .int p1]) (n := 2) (Nat.le_of_ble_eq_true rfl)
  rw [hen, lg_entry_eq]
  generalize (lg_sl ([.ref (hMo 99), .int p1]) ++ List.replicate (2 - (lg_sl ([.ref (hMo 99), .int p1])).length) Slot.unset).toArray = ls at hl ⊢
  have hl : lv_has ls 2 [(0, .ref (hMo 99)), (1, .int p1)] := hl
  unfold f_X11_isRule at hf
  obtain ⟨H, hHe⟩ : ∃ z, z = s.heap := ⟨_, rfl⟩
  obtain ⟨locs, hLe⟩ : ∃ z : List Loc, z = [] := ⟨_, rfl⟩
  rw [← hLe]
  have hS : va_S nOne s.heap H locs := by rw [hHe, hLe]; exact hS
  have hP : va_P D vwCl (wMo K hMo sMo) H := by rw [hHe]; exact hP
  have hgo : W p l e (headSpec wz_X11_isRule r_X11_isRule).room s m args below meth c H locs 0 0 Q (F0 m 0 ls []) := by
    refine lv_aload_n hx hb dX11_isRule_0 rfl (lv_at hl 0 rfl) ?_
    refine va_get (D := D) (ci := 10) (v := .int (sMo.1 14)) (C := RX11) (T := TX11) (N := 41) hx hb hts iX11 hown hK hP 0 o_Mo rfl 14 (by decide) (htl _ (mB18 _ (List.mem_of_getElem? (i := 4) rfl))) (fun _ h9 => h9) rfl dX11_isRule_1 ?_
    refine lv_if_eq (tgt := 20) hx hb dX11_isRule_4 (by decide) (fun c1 => ?_) (fun c1 => ?_)
    · have hf := it_t hf c1
      refine lv_iconst (v := (0 : Int32)) hx hb dX11_isRule_20 (by decide) ?_
      have e9 := Option.some.inj hf
      rw [hQ]
      exact W.zret (v := (0 : Int32)) hx hb hr rfl (fun t ht hW => ⟨⟨(0 : Int32), (), rfl, e9, trivial⟩, hS.F ht⟩) hS.2.2 dX11_isRule_21
    · have hf := it_f hf c1
      refine lv_iload_n hx hb dX11_isRule_7 rfl (lv_at hl 1 rfl) ?_
      refine lv_iconst (v := (0 : Int32)) hx hb dX11_isRule_8 (by decide) ?_
      refine lv_iconst (v := (3 : Int32)) hx hb dX11_isRule_9 (by decide) ?_
      obtain ⟨o2, go2, hf⟩ := bd_s hf
      refine ro_Si (As := [.int p1, .int (0 : Int32), .int (3 : Int32)]) (rest := []) ⟨hx, hb, hml, hown, hts⟩ (c_X11_in l D K F p1 (0 : Int32) (3 : Int32) o2 go2) (va_cwS 3 hts (gcS_X11_in (mB18 _ (List.mem_of_getElem? (i := 12) rfl))) rfl rfl rfl hdS_X11_in ⟨Nat.le_of_ble_eq_true rfl, Nat.le_of_ble_eq_true rfl⟩) hK hP hS va_Pnil rfl hl.1 rfl (Nat.le_of_ble_eq_true rfl) dX11_isRule_10 ⟨Nat.zero_le _, Nat.zero_le _⟩ (fun H locs hP hS => ?_)
      refine lv_if_eq (tgt := 20) hx hb dX11_isRule_13 (by decide) (fun c3 => ?_) (fun c3 => ?_)
      · have hf := it_t hf c3
        refine lv_iconst (v := (0 : Int32)) hx hb dX11_isRule_20 (by decide) ?_
        have e9 := Option.some.inj hf
        rw [hQ]
        exact W.zret (v := (0 : Int32)) hx hb hr rfl (fun t ht hW => ⟨⟨(0 : Int32), (), rfl, e9, trivial⟩, hS.F ht⟩) hS.2.2 dX11_isRule_21
      · have hf := it_f hf c3
        refine lv_iconst (v := (1 : Int32)) hx hb dX11_isRule_16 (by decide) ?_
        refine lv_goto (tgt := 21) hx hb dX11_isRule_17 (by decide) ?_
        have e9 := Option.some.inj hf
        rw [hQ]
        exact W.zret (v := (1 : Int32)) hx hb hr rfl (fun t ht hW => ⟨⟨(1 : Int32), (), rfl, e9, trivial⟩, hS.F ht⟩) hS.2.2 dX11_isRule_21
  rw [hHe] at hgo
  exact hgo

def wz_X11_roadOf : List Cond := .code yX11_roadOf cX11_roadOf 3 (some .int) :: wsL_law
abbrev r_X11_roadOf : Room := { frames := 0, cells := 0, slots := 0, locals := 0 }
set_option maxHeartbeats 4000000 in
set_option maxRecDepth 100000 in
theorem c_X11_roadOf (l : Launch) (D : va_G) (K : Nat → ClassId) (F : Nat) (hMo : Nat → Nat) (sMo : MS) (p1 : Int32) (p2 : Int32) (res : Int32) (hf : f_X11_roadOf F sMo p1 p2 = some res) : Met l yX11_roadOf wz_X11_roadOf r_X11_roadOf (va_Pc [.ref (hMo 99), .int p1, .int p2] (PR D K (wMo K hMo sMo))) (va_Qi (fun r (_ : Unit) => r = res) BN nOne) 0 0 nOne := by
  refine Met.ofW (cc := cX11_roadOf) (maxL := 3) (ret := (some .int)) (by decide) rfl ?_
  intro p e s m args below meth c s₁ B hml hv
  obtain ⟨hargs, hP, hK⟩ := hv
  have hx := B.exec
  have hb := B.bytes
  have hr := B.returns
  have hts := atoms_spec (ws := wz_X11_roadOf) B.pre
  have htl : ∀ w ∈ wsL_law, w.before args s = true := fun w h => hts w (List.mem_cons_of_mem _ h)
  have hown : s.vm.findClass RX11 = some m.cls := findClass_of_methodNamed B.named
  have hlocks := B.notSynchronized
  have hS : va_S nOne s.heap s.heap [] := va_S.rf
  have iX11 : ∀ w ∈ wsX110, w ∈ wz_X11_roadOf := fun w h => List.mem_cons_of_mem _ (inlX11 w h)
  suffices hgo : ∀ Q : State → Prop, Q = MQ below (va_Qi (fun r (_ : Unit) => r = res) BN nOne) args s 0 0 nOne → W p l e (headSpec wz_X11_roadOf r_X11_roadOf).room s m args below meth c s.heap [] 0 0 Q (entryFrame m args 3) from hgo _ rfl
  intro Q hQ
  have hen : entryFrame m args 3 = entryFrame m (([.ref (hMo 99), .int p1, .int p2] : List Value).toArray) 3 := by rw [hargs]
  have hl := lv_entry ([.ref (hMo 99), .int p1, .int p2]) (n := 3) (Nat.le_of_ble_eq_true rfl)
  rw [hen, lg_entry_eq]
  generalize (lg_sl ([.ref (hMo 99), .int p1, .int p2]) ++ List.replicate (3 - (lg_sl ([.ref (hMo 99), .int p1, .int p2])).length) Slot.unset).toArray = ls at hl ⊢
  have hl : lv_has ls 3 [(0, .ref (hMo 99)), (1, .int p1), (2, .int p2)] := hl
  unfold f_X11_roadOf at hf
  obtain ⟨H, hHe⟩ : ∃ z, z = s.heap := ⟨_, rfl⟩
  obtain ⟨locs, hLe⟩ : ∃ z : List Loc, z = [] := ⟨_, rfl⟩
  rw [← hLe]
  have hS : va_S nOne s.heap H locs := by rw [hHe, hLe]; exact hS
  have hP : va_P D vwCl (wMo K hMo sMo) H := by rw [hHe]; exact hP
  have hgo : W p l e (headSpec wz_X11_roadOf r_X11_roadOf).room s m args below meth c H locs 0 0 Q (F0 m 0 ls []) := by
    refine lv_aload_n hx hb dX11_roadOf_0 rfl (lv_at hl 0 rfl) ?_
    refine va_get (D := D) (ci := 10) (v := .ref (hMo 15)) (C := RX11) (T := TX11) (N := 41) hx hb hts iX11 hown hK hP 0 o_Mo rfl 15 (by decide) (htl _ (mB6 _ (List.mem_of_getElem? (i := 3) rfl))) (fun _ h9 => h9) rfl dX11_roadOf_1 ?_
    refine lv_bipush (v := (38 : Int32)) hx hb dX11_roadOf_4 (by decide) ?_
    refine lv_bipush (v := (9 : Int32)) hx hb dX11_roadOf_6 (by decide) ?_
    refine lv_iload_n hx hb dX11_roadOf_8 rfl (lv_at hl 1 rfl) ?_
    refine lv_imul hx hb dX11_roadOf_9 ?_
    refine lv_iadd hx hb dX11_roadOf_10 ?_
    refine lv_iload_n hx hb dX11_roadOf_11 rfl (lv_at hl 2 rfl) ?_
    refine lv_iadd hx hb dX11_roadOf_12 ?_
    obtain ⟨g1, hf⟩ := gd_s hf
    refine va_iald hx hb hK hP 3 0 (f := sMo.2.2.1 15) a_Mo_15 rfl (vpb_in g1) dX11_roadOf_13 ?_
    refine lv_topi (fun v2 ev2 => ?_)
    have hf := lz_s hf v2 ev2
    have e9 := Option.some.inj hf
    rw [hQ]
    exact W.iret (v := v2) hx hb hr (fun t ht hW => ⟨⟨v2, (), rfl, e9, trivial⟩, hS.F ht⟩) hS.2.2 dX11_roadOf_14
  rw [hHe] at hgo
  exact hgo

def wz_X11_placeOf : List Cond := .code yX11_placeOf cX11_placeOf 2 (some .int) :: wsL_law
abbrev r_X11_placeOf : Room := { frames := 0, cells := 0, slots := 0, locals := 0 }
set_option maxHeartbeats 4000000 in
set_option maxRecDepth 100000 in
theorem c_X11_placeOf (l : Launch) (D : va_G) (K : Nat → ClassId) (F : Nat) (hMo : Nat → Nat) (sMo : MS) (p1 : Int32) (res : Int32) (hf : f_X11_placeOf F sMo p1 = some res) : Met l yX11_placeOf wz_X11_placeOf r_X11_placeOf (va_Pc [.ref (hMo 99), .int p1] (PR D K (wMo K hMo sMo))) (va_Qi (fun r (_ : Unit) => r = res) BN nOne) 0 0 nOne := by
  refine Met.ofW (cc := cX11_placeOf) (maxL := 2) (ret := (some .int)) (by decide) rfl ?_
  intro p e s m args below meth c s₁ B hml hv
  obtain ⟨hargs, hP, hK⟩ := hv
  have hx := B.exec
  have hb := B.bytes
  have hr := B.returns
  have hts := atoms_spec (ws := wz_X11_placeOf) B.pre
  have htl : ∀ w ∈ wsL_law, w.before args s = true := fun w h => hts w (List.mem_cons_of_mem _ h)
  have hown : s.vm.findClass RX11 = some m.cls := findClass_of_methodNamed B.named
  have hlocks := B.notSynchronized
  have hS : va_S nOne s.heap s.heap [] := va_S.rf
  have iX11 : ∀ w ∈ wsX110, w ∈ wz_X11_placeOf := fun w h => List.mem_cons_of_mem _ (inlX11 w h)
  suffices hgo : ∀ Q : State → Prop, Q = MQ below (va_Qi (fun r (_ : Unit) => r = res) BN nOne) args s 0 0 nOne → W p l e (headSpec wz_X11_placeOf r_X11_placeOf).room s m args below meth c s.heap [] 0 0 Q (entryFrame m args 2) from hgo _ rfl
  intro Q hQ
  have hen : entryFrame m args 2 = entryFrame m (([.ref (hMo 99), .int p1] : List Value).toArray) 2 := by rw [hargs]
  have hl := lv_entry ([.ref (hMo 99), .int p1]) (n := 2) (Nat.le_of_ble_eq_true rfl)
  rw [hen, lg_entry_eq]
  generalize (lg_sl ([.ref (hMo 99), .int p1]) ++ List.replicate (2 - (lg_sl ([.ref (hMo 99), .int p1])).length) Slot.unset).toArray = ls at hl ⊢
  have hl : lv_has ls 2 [(0, .ref (hMo 99)), (1, .int p1)] := hl
  unfold f_X11_placeOf at hf
  obtain ⟨H, hHe⟩ : ∃ z, z = s.heap := ⟨_, rfl⟩
  obtain ⟨locs, hLe⟩ : ∃ z : List Loc, z = [] := ⟨_, rfl⟩
  rw [← hLe]
  have hS : va_S nOne s.heap H locs := by rw [hHe, hLe]; exact hS
  have hP : va_P D vwCl (wMo K hMo sMo) H := by rw [hHe]; exact hP
  have hgo : W p l e (headSpec wz_X11_placeOf r_X11_placeOf).room s m args below meth c H locs 0 0 Q (F0 m 0 ls []) := by
    refine lv_aload_n hx hb dX11_placeOf_0 rfl (lv_at hl 0 rfl) ?_
    refine va_get (D := D) (ci := 10) (v := .ref (hMo 15)) (C := RX11) (T := TX11) (N := 41) hx hb hts iX11 hown hK hP 0 o_Mo rfl 15 (by decide) (htl _ (mB6 _ (List.mem_of_getElem? (i := 3) rfl))) (fun _ h9 => h9) rfl dX11_placeOf_1 ?_
    refine lv_sipush (v := (200 : Int32)) hx hb dX11_placeOf_4 (by decide) ?_
    refine lv_iload_n hx hb dX11_placeOf_7 rfl (lv_at hl 1 rfl) ?_
    refine lv_iadd hx hb dX11_placeOf_8 ?_
    obtain ⟨g1, hf⟩ := gd_s hf
    refine va_iald hx hb hK hP 3 0 (f := sMo.2.2.1 15) a_Mo_15 rfl (vpb_in g1) dX11_placeOf_9 ?_
    refine lv_topi (fun v2 ev2 => ?_)
    have hf := lz_s hf v2 ev2
    have e9 := Option.some.inj hf
    rw [hQ]
    exact W.iret (v := v2) hx hb hr (fun t ht hW => ⟨⟨v2, (), rfl, e9, trivial⟩, hS.F ht⟩) hS.2.2 dX11_placeOf_10
  rw [hHe] at hgo
  exact hgo

theorem gcV_X11_placeOf {T0 : Cond} {own : String} {i : Nat} (h : Cond.methodLink own i yX11_placeOf ∈ wsL_law) : GoodIn (T0 :: wsL_law) (wsV own i RX11 yX11_placeOf wz_X11_placeOf) := gV h (mB26 _ (List.mem_of_getElem? (i := 20) rfl)) (mB26 _ (List.mem_of_getElem? (i := 21) rfl)) (mB1 _ (List.mem_of_getElem? (i := 5) rfl)) (mB26 _ (List.mem_of_getElem? (i := 22) rfl))
theorem hdV_X11_placeOf : yX11_placeOf.cls = RX11 ∧ yX11_placeOf.cls ≠ "java/lang/invoke/MethodHandle" ∧ yX11_placeOf.cls ≠ "java/lang/invoke/VarHandle" ∧ (parseMethodDescriptor yX11_placeOf.desc).map (fun d => d.parameters.length) = some 1 := by decide +kernel
def wz_X11_priceAt : List Cond := .code yX11_priceAt cX11_priceAt 2 (some .int) :: wsL_law
abbrev r_X11_priceAt : Room := { frames := 1, cells := 0, slots := 0, locals := 22 }
set_option maxHeartbeats 4000000 in
set_option maxRecDepth 100000 in
theorem c_X11_priceAt (l : Launch) (D : va_G) (K : Nat → ClassId) (F : Nat) (hMo : Nat → Nat) (sMo : MS) (p1 : Int32) (res : Int32) (hf : f_X11_priceAt F sMo p1 = some res) : Met l yX11_priceAt wz_X11_priceAt r_X11_priceAt (va_Pc [.ref (hMo 99), .int p1] (PR D K (wMo K hMo sMo))) (va_Qi (fun r (_ : Unit) => r = res) BN nOne) 0 0 nOne := by
  refine Met.ofW (cc := cX11_priceAt) (maxL := 2) (ret := (some .int)) (by decide) rfl ?_
  intro p e s m args below meth c s₁ B hml hv
  obtain ⟨hargs, hP, hK⟩ := hv
  have hx := B.exec
  have hb := B.bytes
  have hr := B.returns
  have hts := atoms_spec (ws := wz_X11_priceAt) B.pre
  have htl : ∀ w ∈ wsL_law, w.before args s = true := fun w h => hts w (List.mem_cons_of_mem _ h)
  have hown : s.vm.findClass RX11 = some m.cls := findClass_of_methodNamed B.named
  have hlocks := B.notSynchronized
  have hS : va_S nOne s.heap s.heap [] := va_S.rf
  suffices hgo : ∀ Q : State → Prop, Q = MQ below (va_Qi (fun r (_ : Unit) => r = res) BN nOne) args s 0 0 nOne → W p l e (headSpec wz_X11_priceAt r_X11_priceAt).room s m args below meth c s.heap [] 0 0 Q (entryFrame m args 2) from hgo _ rfl
  intro Q hQ
  have hen : entryFrame m args 2 = entryFrame m (([.ref (hMo 99), .int p1] : List Value).toArray) 2 := by rw [hargs]
  have hl := lv_entry ([.ref (hMo 99), .int p1]) (n := 2) (Nat.le_of_ble_eq_true rfl)
  rw [hen, lg_entry_eq]
  generalize (lg_sl ([.ref (hMo 99), .int p1]) ++ List.replicate (2 - (lg_sl ([.ref (hMo 99), .int p1])).length) Slot.unset).toArray = ls at hl ⊢
  have hl : lv_has ls 2 [(0, .ref (hMo 99)), (1, .int p1)] := hl
  unfold f_X11_priceAt at hf
  obtain ⟨H, hHe⟩ : ∃ z, z = s.heap := ⟨_, rfl⟩
  obtain ⟨locs, hLe⟩ : ∃ z : List Loc, z = [] := ⟨_, rfl⟩
  rw [← hLe]
  have hS : va_S nOne s.heap H locs := by rw [hHe, hLe]; exact hS
  have hP : va_P D vwCl (wMo K hMo sMo) H := by rw [hHe]; exact hP
  have hgo : W p l e (headSpec wz_X11_priceAt r_X11_priceAt).room s m args below meth c H locs 0 0 Q (F0 m 0 ls []) := by
    refine lv_aload_n hx hb dX11_priceAt_0 rfl (lv_at hl 0 rfl) ?_
    refine lv_aload_n hx hb dX11_priceAt_1 rfl (lv_at hl 0 rfl) ?_
    refine lv_iload_n hx hb dX11_priceAt_2 rfl (lv_at hl 1 rfl) ?_
    obtain ⟨o1, go1, hf⟩ := bd_s hf
    refine ro_Vi (As := [.int p1]) (rest := [.ref (hMo 99)]) ⟨hx, hb, hml, hown, hts⟩ (c_X11_placeOf l D K F hMo sMo p1 o1 go1) (cwV 1 hts (gcV_X11_placeOf (mB26 _ (List.mem_of_getElem? (i := 19) rfl))) rfl rfl rfl hdV_X11_placeOf ⟨Nat.le_of_ble_eq_true rfl, Nat.le_of_ble_eq_true rfl⟩) hK hP hS hP (va_recv hK hP (ci := 10) (q0 := 0) rfl o_Mo) rfl hl.1 rfl (Nat.le_of_ble_eq_true rfl) dX11_priceAt_3 ⟨Nat.zero_le _, Nat.zero_le _⟩ (fun H locs hP hS => ?_)
    refine lv_iconst (v := (0 : Int32)) hx hb dX11_priceAt_6 (by decide) ?_
    obtain ⟨o2, go2, hf⟩ := bd_s hf
    refine ro_Vi (As := [.int o1, .int (0 : Int32)]) (rest := []) ⟨hx, hb, hml, hown, hts⟩ (c_X11_pumpOf l D K F hMo sMo o1 (0 : Int32) o2 go2) (cwV 2 hts (gcV_X11_pumpOf (mB23 _ (List.mem_of_getElem? (i := 9) rfl))) rfl rfl rfl hdV_X11_pumpOf ⟨Nat.le_of_ble_eq_true rfl, Nat.le_of_ble_eq_true rfl⟩) hK hP hS hP (va_recv hK hP (ci := 10) (q0 := 0) rfl o_Mo) rfl hl.1 rfl (Nat.le_of_ble_eq_true rfl) dX11_priceAt_7 ⟨Nat.zero_le _, Nat.zero_le _⟩ (fun H locs hP hS => ?_)
    have e9 := Option.some.inj hf
    rw [hQ]
    exact W.iret (v := o2) hx hb hr (fun t ht hW => ⟨⟨o2, (), rfl, e9, trivial⟩, hS.F ht⟩) hS.2.2 dX11_priceAt_10
  rw [hHe] at hgo
  exact hgo

theorem gcV_X11_roadOf {T0 : Cond} {own : String} {i : Nat} (h : Cond.methodLink own i yX11_roadOf ∈ wsL_law) : GoodIn (T0 :: wsL_law) (wsV own i RX11 yX11_roadOf wz_X11_roadOf) := gV h (mB25 _ (List.mem_of_getElem? (i := 12) rfl)) (mB25 _ (List.mem_of_getElem? (i := 13) rfl)) (mB1 _ (List.mem_of_getElem? (i := 5) rfl)) (mB25 _ (List.mem_of_getElem? (i := 14) rfl))
theorem hdV_X11_roadOf : yX11_roadOf.cls = RX11 ∧ yX11_roadOf.cls ≠ "java/lang/invoke/MethodHandle" ∧ yX11_roadOf.cls ≠ "java/lang/invoke/VarHandle" ∧ (parseMethodDescriptor yX11_roadOf.desc).map (fun d => d.parameters.length) = some 2 := by decide +kernel
def wz_X11_leg : List Cond := .code yX11_leg cX11_leg 2 (some .int) :: wsL_law
abbrev r_X11_leg : Room := { frames := 1, cells := 0, slots := 0, locals := 22 }
set_option maxHeartbeats 4000000 in
set_option maxRecDepth 100000 in
theorem c_X11_leg (l : Launch) (D : va_G) (K : Nat → ClassId) (F : Nat) (hMo : Nat → Nat) (sMo : MS) (p1 : Int32) (res : Int32) (hf : f_X11_leg F sMo p1 = some res) : Met l yX11_leg wz_X11_leg r_X11_leg (va_Pc [.ref (hMo 99), .int p1] (PR D K (wMo K hMo sMo))) (va_Qi (fun r (_ : Unit) => r = res) BN nOne) 0 0 nOne := by
  refine Met.ofW (cc := cX11_leg) (maxL := 2) (ret := (some .int)) (by decide) rfl ?_
  intro p e s m args below meth c s₁ B hml hv
  obtain ⟨hargs, hP, hK⟩ := hv
  have hx := B.exec
  have hb := B.bytes
  have hr := B.returns
  have hts := atoms_spec (ws := wz_X11_leg) B.pre
  have htl : ∀ w ∈ wsL_law, w.before args s = true := fun w h => hts w (List.mem_cons_of_mem _ h)
  have hown : s.vm.findClass RX11 = some m.cls := findClass_of_methodNamed B.named
  have hlocks := B.notSynchronized
  have hS : va_S nOne s.heap s.heap [] := va_S.rf
  suffices hgo : ∀ Q : State → Prop, Q = MQ below (va_Qi (fun r (_ : Unit) => r = res) BN nOne) args s 0 0 nOne → W p l e (headSpec wz_X11_leg r_X11_leg).room s m args below meth c s.heap [] 0 0 Q (entryFrame m args 2) from hgo _ rfl
  intro Q hQ
  have hen : entryFrame m args 2 = entryFrame m (([.ref (hMo 99), .int p1] : List Value).toArray) 2 := by rw [hargs]
  have hl := lv_entry ([.ref (hMo 99), .int p1]) (n := 2) (Nat.le_of_ble_eq_true rfl)
  rw [hen, lg_entry_eq]
  generalize (lg_sl ([.ref (hMo 99), .int p1]) ++ List.replicate (2 - (lg_sl ([.ref (hMo 99), .int p1])).length) Slot.unset).toArray = ls at hl ⊢
  have hl : lv_has ls 2 [(0, .ref (hMo 99)), (1, .int p1)] := hl
  unfold f_X11_leg at hf
  obtain ⟨H, hHe⟩ : ∃ z, z = s.heap := ⟨_, rfl⟩
  obtain ⟨locs, hLe⟩ : ∃ z : List Loc, z = [] := ⟨_, rfl⟩
  rw [← hLe]
  have hS : va_S nOne s.heap H locs := by rw [hHe, hLe]; exact hS
  have hP : va_P D vwCl (wMo K hMo sMo) H := by rw [hHe]; exact hP
  have hgo : W p l e (headSpec wz_X11_leg r_X11_leg).room s m args below meth c H locs 0 0 Q (F0 m 0 ls []) := by
    refine lv_aload_n hx hb dX11_leg_0 rfl (lv_at hl 0 rfl) ?_
    refine lv_aload_n hx hb dX11_leg_1 rfl (lv_at hl 0 rfl) ?_
    refine lv_iload_n hx hb dX11_leg_2 rfl (lv_at hl 1 rfl) ?_
    obtain ⟨o1, go1, hf⟩ := bd_s hf
    refine ro_Vi (As := [.int p1]) (rest := [.ref (hMo 99)]) ⟨hx, hb, hml, hown, hts⟩ (c_X11_placeOf l D K F hMo sMo p1 o1 go1) (cwV 1 hts (gcV_X11_placeOf (mB26 _ (List.mem_of_getElem? (i := 19) rfl))) rfl rfl rfl hdV_X11_placeOf ⟨Nat.le_of_ble_eq_true rfl, Nat.le_of_ble_eq_true rfl⟩) hK hP hS hP (va_recv hK hP (ci := 10) (q0 := 0) rfl o_Mo) rfl hl.1 rfl (Nat.le_of_ble_eq_true rfl) dX11_leg_3 ⟨Nat.zero_le _, Nat.zero_le _⟩ (fun H locs hP hS => ?_)
    refine lv_aload_n hx hb dX11_leg_6 rfl (lv_at hl 0 rfl) ?_
    refine lv_iload_n hx hb dX11_leg_7 rfl (lv_at hl 1 rfl) ?_
    refine lv_iconst (v := (1 : Int32)) hx hb dX11_leg_8 (by decide) ?_
    refine lv_iadd hx hb dX11_leg_9 ?_
    obtain ⟨o2, go2, hf⟩ := bd_s hf
    refine ro_Vi (As := [.int (p1 + (1 : Int32))]) (rest := [.int o1, .ref (hMo 99)]) ⟨hx, hb, hml, hown, hts⟩ (c_X11_placeOf l D K F hMo sMo (p1 + (1 : Int32)) o2 go2) (cwV 1 hts (gcV_X11_placeOf (mB26 _ (List.mem_of_getElem? (i := 19) rfl))) rfl rfl rfl hdV_X11_placeOf ⟨Nat.le_of_ble_eq_true rfl, Nat.le_of_ble_eq_true rfl⟩) hK hP hS hP (va_recv hK hP (ci := 10) (q0 := 0) rfl o_Mo) rfl hl.1 rfl (Nat.le_of_ble_eq_true rfl) dX11_leg_10 ⟨Nat.zero_le _, Nat.zero_le _⟩ (fun H locs hP hS => ?_)
    obtain ⟨o3, go3, hf⟩ := bd_s hf
    refine ro_Vi (As := [.int o1, .int o2]) (rest := []) ⟨hx, hb, hml, hown, hts⟩ (c_X11_roadOf l D K F hMo sMo o1 o2 o3 go3) (cwV 2 hts (gcV_X11_roadOf (mB25 _ (List.mem_of_getElem? (i := 11) rfl))) rfl rfl rfl hdV_X11_roadOf ⟨Nat.le_of_ble_eq_true rfl, Nat.le_of_ble_eq_true rfl⟩) hK hP hS hP (va_recv hK hP (ci := 10) (q0 := 0) rfl o_Mo) rfl hl.1 rfl (Nat.le_of_ble_eq_true rfl) dX11_leg_13 ⟨Nat.zero_le _, Nat.zero_le _⟩ (fun H locs hP hS => ?_)
    have e9 := Option.some.inj hf
    rw [hQ]
    exact W.iret (v := o3) hx hb hr (fun t ht hW => ⟨⟨o3, (), rfl, e9, trivial⟩, hS.F ht⟩) hS.2.2 dX11_leg_16
  rw [hHe] at hgo
  exact hgo

theorem gcV_X11_leg {T0 : Cond} {own : String} {i : Nat} (h : Cond.methodLink own i yX11_leg ∈ wsL_law) : GoodIn (T0 :: wsL_law) (wsV own i RX11 yX11_leg wz_X11_leg) := gV h (mB27 _ (List.mem_of_getElem? (i := 16) rfl)) (mB27 _ (List.mem_of_getElem? (i := 17) rfl)) (mB1 _ (List.mem_of_getElem? (i := 5) rfl)) (mB27 _ (List.mem_of_getElem? (i := 18) rfl))
theorem hdV_X11_leg : yX11_leg.cls = RX11 ∧ yX11_leg.cls ≠ "java/lang/invoke/MethodHandle" ∧ yX11_leg.cls ≠ "java/lang/invoke/VarHandle" ∧ (parseMethodDescriptor yX11_leg.desc).map (fun d => d.parameters.length) = some 1 := by decide +kernel
def wz_X11_legsOf : List Cond := .code yX11_legsOf cX11_legsOf 5 (some .int) :: wsL_law
abbrev r_X11_legsOf : Room := { frames := 2, cells := 0, slots := 0, locals := 43 }
set_option maxHeartbeats 4000000 in
set_option maxRecDepth 100000 in
theorem c_X11_legsOf (l : Launch) (D : va_G) (K : Nat → ClassId) (F : Nat) (hMo : Nat → Nat) (sMo : MS) (p1 : Int32) (p2 : Int32) (res : Int32) (hf : f_X11_legsOf F sMo p1 p2 = some res) : Met l yX11_legsOf wz_X11_legsOf r_X11_legsOf (va_Pc [.ref (hMo 99), .int p1, .int p2] (PR D K (wMo K hMo sMo))) (va_Qi (fun r (_ : Unit) => r = res) BN nOne) 0 0 nOne := by
  refine Met.ofW (cc := cX11_legsOf) (maxL := 5) (ret := (some .int)) (by decide) rfl ?_
  intro p e s m args below meth c s₁ B hml hv
  obtain ⟨hargs, hP, hK⟩ := hv
  have hx := B.exec
  have hb := B.bytes
  have hr := B.returns
  have hts := atoms_spec (ws := wz_X11_legsOf) B.pre
  have htl : ∀ w ∈ wsL_law, w.before args s = true := fun w h => hts w (List.mem_cons_of_mem _ h)
  have hown : s.vm.findClass RX11 = some m.cls := findClass_of_methodNamed B.named
  have hlocks := B.notSynchronized
  have hS : va_S nOne s.heap s.heap [] := va_S.rf
  suffices hgo : ∀ Q : State → Prop, Q = MQ below (va_Qi (fun r (_ : Unit) => r = res) BN nOne) args s 0 0 nOne → W p l e (headSpec wz_X11_legsOf r_X11_legsOf).room s m args below meth c s.heap [] 0 0 Q (entryFrame m args 5) from hgo _ rfl
  intro Q hQ
  have w5 : ∀ (n : Nat), ∀ (x3 : Int32), ∀ (x4 : Int32), ∀ (H : Heap) (locs : List Loc) (ls : Array Slot), f_X11_legsOf_5 F sMo p1 p2 n x3 x4 = some res → va_P D vwCl (wMo K hMo sMo) H → va_S nOne s.heap H locs → lv_has ls 5 [(0, .ref (hMo 99)), (2, .int p2), (3, .int x3), (4, .int x4)] → W p l e (headSpec wz_X11_legsOf r_X11_legsOf).room s m args below meth c H locs 0 0 Q (F0 m 5 ls []) := by
    intro n
    induction n with
    | zero =>
      intro x3 x4 H locs ls hf
      exact absurd (show none = some res from hf) (fun h => nomatch h)
    | succ n ih =>
      intro x3 x4 H locs ls hf hP hS hl
      rw [f_X11_legsOf_5] at hf
      refine lv_iload hx hb dX11_legsOf_5 (lv_at hl 3 rfl) ?_
      refine lv_iload_n hx hb dX11_legsOf_7 rfl (lv_at hl 1 rfl) ?_
      refine lv_icmp_ge (tgt := 26) hx hb dX11_legsOf_8 (by decide) (fun c1 => ?_) (fun c1 => ?_)
      · have hf := it_t hf c1
        refine lv_iload_n hx hb dX11_legsOf_26 rfl (lv_at hl 2 rfl) ?_
        have e9 := Option.some.inj hf
        rw [hQ]
        exact W.iret (v := x3) hx hb hr (fun t ht hW => ⟨⟨x3, (), rfl, e9, trivial⟩, hS.F ht⟩) hS.2.2 dX11_legsOf_27
      · have hf := it_f hf c1
        refine lv_iload_n hx hb dX11_legsOf_11 rfl (lv_at hl 2 rfl) ?_
        refine lv_aload_n hx hb dX11_legsOf_12 rfl (lv_at hl 0 rfl) ?_
        refine lv_iload hx hb dX11_legsOf_13 (lv_at hl 3 rfl) ?_
        obtain ⟨o2, go2, hf⟩ := bd_s hf
        refine ro_Vi (As := [.int x4]) (rest := [.int x3]) ⟨hx, hb, hml, hown, hts⟩ (c_X11_leg l D K F hMo sMo x4 o2 go2) (cwV 1 hts (gcV_X11_leg (mB27 _ (List.mem_of_getElem? (i := 15) rfl))) rfl rfl rfl hdV_X11_leg ⟨Nat.le_of_ble_eq_true rfl, Nat.le_of_ble_eq_true rfl⟩) hK hP hS hP (va_recv hK hP (ci := 10) (q0 := 0) rfl o_Mo) rfl hl.1 rfl (Nat.le_of_ble_eq_true rfl) dX11_legsOf_15 ⟨Nat.zero_le _, Nat.zero_le _⟩ (fun H locs hP hS => ?_)
        refine lv_iadd hx hb dX11_legsOf_18 ?_
        refine lv_istore_n (lv' := [(3, .int (x3 + o2)), (0, .ref (hMo 99)), (2, .int p2), (4, .int x4)]) hx hb dX11_legsOf_19 rfl hl (by decide) rfl (fun ls hl => ?_)
        obtain ⟨v3, ev3⟩ : ∃ z : Int32, z = x4 + (1 : Int32) := ⟨_, rfl⟩
        have hf := lz_s hf v3 ev3
        refine lv_iinc (v := v3) (lv' := [(4, .int v3), (3, .int (x3 + o2)), (0, .ref (hMo 99)), (2, .int p2)]) hx hb dX11_legsOf_20 hl (k := 3) rfl (by rw [ev3]; rfl) (by decide) rfl (fun ls hl => ?_)
        refine lv_goto (tgt := 5) hx hb dX11_legsOf_23 (by decide) ?_
        exact ih (x3 + o2) v3 H locs ls hf hP hS (lv_sub hl [2, 3, 1, 0] rfl)
  have hen : entryFrame m args 5 = entryFrame m (([.ref (hMo 99), .int p1, .int p2] : List Value).toArray) 5 := by rw [hargs]
  have hl := lv_entry ([.ref (hMo 99), .int p1, .int p2]) (n := 5) (Nat.le_of_ble_eq_true rfl)
  rw [hen, lg_entry_eq]
  generalize (lg_sl ([.ref (hMo 99), .int p1, .int p2]) ++ List.replicate (5 - (lg_sl ([.ref (hMo 99), .int p1, .int p2])).length) Slot.unset).toArray = ls at hl ⊢
  have hl : lv_has ls 5 [(0, .ref (hMo 99)), (1, .int p1), (2, .int p2)] := hl
  unfold f_X11_legsOf at hf
  obtain ⟨H, hHe⟩ : ∃ z, z = s.heap := ⟨_, rfl⟩
  obtain ⟨locs, hLe⟩ : ∃ z : List Loc, z = [] := ⟨_, rfl⟩
  rw [← hLe]
  have hS : va_S nOne s.heap H locs := by rw [hHe, hLe]; exact hS
  have hP : va_P D vwCl (wMo K hMo sMo) H := by rw [hHe]; exact hP
  have hgo : W p l e (headSpec wz_X11_legsOf r_X11_legsOf).room s m args below meth c H locs 0 0 Q (F0 m 0 ls []) := by
    refine lv_iconst (v := (0 : Int32)) hx hb dX11_legsOf_0 (by decide) ?_
    refine lv_istore_n (lv' := [(3, .int (0 : Int32)), (0, .ref (hMo 99)), (1, .int p1), (2, .int p2)]) hx hb dX11_legsOf_1 rfl hl (by decide) rfl (fun ls hl => ?_)
    refine lv_iload_n hx hb dX11_legsOf_2 rfl (lv_at hl 2 rfl) ?_
    refine lv_istore (lv' := [(4, .int p1), (3, .int (0 : Int32)), (0, .ref (hMo 99)), (1, .int p1), (2, .int p2)]) hx hb dX11_legsOf_3 hl (by decide) rfl (fun ls hl => ?_)
    exact w5 F (0 : Int32) p1 H locs ls hf hP hS (lv_sub hl [2, 4, 1, 0] rfl)
  rw [hHe] at hgo
  exact hgo

theorem gcV_X11_isPlace {T0 : Cond} {own : String} {i : Nat} (h : Cond.methodLink own i yX11_isPlace ∈ wsL_law) : GoodIn (T0 :: wsL_law) (wsV own i RX11 yX11_isPlace wz_X11_isPlace) := gV h (mB25 _ (List.mem_of_getElem? (i := 8) rfl)) (mB25 _ (List.mem_of_getElem? (i := 9) rfl)) (mB1 _ (List.mem_of_getElem? (i := 5) rfl)) (mB25 _ (List.mem_of_getElem? (i := 10) rfl))
theorem hdV_X11_isPlace : yX11_isPlace.cls = RX11 ∧ yX11_isPlace.cls ≠ "java/lang/invoke/MethodHandle" ∧ yX11_isPlace.cls ≠ "java/lang/invoke/VarHandle" ∧ (parseMethodDescriptor yX11_isPlace.desc).map (fun d => d.parameters.length) = some 1 := by decide +kernel
def wz_X11_takes : List Cond := .code yX11_takes cX11_takes 4 (some .int) :: wsL_law
abbrev r_X11_takes : Room := { frames := 2, cells := 0, slots := 0, locals := 43 }
set_option maxHeartbeats 4000000 in
set_option maxRecDepth 100000 in
theorem c_X11_takes (l : Launch) (D : va_G) (K : Nat → ClassId) (F : Nat) (hMo : Nat → Nat) (sz : Nat) (sMo : MS) (p1 : Int32) (p2 : Int32) (p3 : Int32) (res : Int32 × MS) (hf : f_X11_takes F p1 p2 p3 sMo = some res) : Met l yX11_takes wz_X11_takes r_X11_takes (va_Pc [.ref (hMo 99), .int p1, .int p2, .int p3] (PW D K (wMo K hMo sMo) sz)) (va_Qi (fun r u => r = res.1 ∧ u = res.2) (fun u t => BW D K (va_A (wMo K hMo sMo) sz) (wMo K hMo u) t) (va_A (wMo K hMo sMo) sz)) 0 0 (va_A (wMo K hMo sMo) sz) := by
  refine Met.ofW (cc := cX11_takes) (maxL := 4) (ret := (some .int)) (by decide) rfl ?_
  intro p e s m args below meth c s₁ B hml hv
  obtain ⟨hargs, hsz, hP, hK, hD0⟩ := hv
  have hx := B.exec
  have hb := B.bytes
  have hr := B.returns
  have hts := atoms_spec (ws := wz_X11_takes) B.pre
  have htl : ∀ w ∈ wsL_law, w.before args s = true := fun w h => hts w (List.mem_cons_of_mem _ h)
  have hown : s.vm.findClass RX11 = some m.cls := findClass_of_methodNamed B.named
  have hlocks := B.notSynchronized
  subst hsz
  have hD := hD0.self (sz := s.heap.size)
  generalize hAe : va_A (wMo K hMo sMo) s.heap.size = A at hD ⊢
  have hA : ∀ q : Nat, s.heap.size ≤ q → A q := fun q h => by rw [← hAe]; exact Or.inr h
  have hS : va_S A s.heap s.heap [] := va_S.rf
  have iX11 : ∀ w ∈ wsX110, w ∈ wz_X11_takes := fun w h => List.mem_cons_of_mem _ (inlX11 w h)
  suffices hgo : ∀ Q : State → Prop, Q = MQ below (va_Qi (fun r u => r = res.1 ∧ u = res.2) (fun u t => BW D K A (wMo K hMo u) t) A) args s 0 0 A → W p l e (headSpec wz_X11_takes r_X11_takes).room s m args below meth c s.heap [] 0 0 Q (entryFrame m args 4) from hgo _ rfl
  intro Q hQ
  have w25 : ∀ (sMo : MS), ∀ (H : Heap) (locs : List Loc) (ls : Array Slot), f_X11_takes_25 F p1 p2 p3 sMo = some res → va_P D vwCl (wMo K hMo sMo) H → va_D A (wMo K hMo sMo) → va_S A s.heap H locs → lv_has ls 4 [(0, .ref (hMo 99))] → W p l e (headSpec wz_X11_takes r_X11_takes).room s m args below meth c H locs 0 0 Q (F0 m 25 ls []) := by
    intro sMo H locs ls hf hP hD hS hl
    unfold f_X11_takes_25 at hf
    refine lv_aload_n hx hb dX11_takes_25 rfl (lv_at hl 0 rfl) ?_
    refine lv_iconst (v := (1 : Int32)) hx hb dX11_takes_26 (by decide) ?_
    obtain ⟨o13, go13, hf⟩ := bd_s hf
    refine rs_Vi (As := [.int (1 : Int32)]) (rest := []) ⟨hx, hb, hml, hown, hts⟩ (c_X11_no l D K F hMo H.size sMo (1 : Int32) o13 go13) (cwV 1 hts (gcV_X11_no (mB18 _ (List.mem_of_getElem? (i := 15) rfl))) rfl rfl rfl hdV_X11_no ⟨Nat.le_of_ble_eq_true rfl, Nat.le_of_ble_eq_true rfl⟩) hK hP hD hS hA (va_recv hK hP (ci := 10) (q0 := 0) rfl o_Mo) rfl hl.1 rfl (Nat.le_of_ble_eq_true rfl) dX11_takes_27 ⟨Nat.zero_le _, Nat.zero_le _⟩ (fun H locs hP hD hS => ?_)
    have hP : va_P D vwCl (wMo K hMo o13.2) H := hP
    have hD : va_D A (wMo K hMo o13.2) := hD
    have e9 := Option.some.inj hf
    rw [hQ]
    exact W.iret (v := o13.1) hx hb hr (fun t ht hW => ⟨⟨o13.1, o13.2, rfl, ⟨pr1 e9, pr2 e9⟩, ⟨by rw [ht]; exact hP, va_K.moved hW.alike hK, hD⟩⟩, hS.F ht⟩) hS.2.2 dX11_takes_30
  have hen : entryFrame m args 4 = entryFrame m (([.ref (hMo 99), .int p1, .int p2, .int p3] : List Value).toArray) 4 := by rw [hargs]
  have hl := lv_entry ([.ref (hMo 99), .int p1, .int p2, .int p3]) (n := 4) (Nat.le_of_ble_eq_true rfl)
  rw [hen, lg_entry_eq]
  generalize (lg_sl ([.ref (hMo 99), .int p1, .int p2, .int p3]) ++ List.replicate (4 - (lg_sl ([.ref (hMo 99), .int p1, .int p2, .int p3])).length) Slot.unset).toArray = ls at hl ⊢
  have hl : lv_has ls 4 [(0, .ref (hMo 99)), (1, .int p1), (2, .int p2), (3, .int p3)] := hl
  unfold f_X11_takes at hf
  obtain ⟨H, hHe⟩ : ∃ z, z = s.heap := ⟨_, rfl⟩
  obtain ⟨locs, hLe⟩ : ∃ z : List Loc, z = [] := ⟨_, rfl⟩
  rw [← hLe]
  have hS : va_S A s.heap H locs := by rw [hHe, hLe]; exact hS
  have hP : va_P D vwCl (wMo K hMo sMo) H := by rw [hHe]; exact hP
  have hgo : W p l e (headSpec wz_X11_takes r_X11_takes).room s m args below meth c H locs 0 0 Q (F0 m 0 ls []) := by
    refine lv_aload_n hx hb dX11_takes_0 rfl (lv_at hl 0 rfl) ?_
    obtain ⟨o1, go1, hf⟩ := bd_s hf
    refine rs_Vv (As := []) (rest := []) ⟨hx, hb, hml, hown, hts⟩ (c_X11_good l D K F hMo H.size sMo o1 go1) (cwV 0 hts (gcV_X11_good (mB18 _ (List.mem_of_getElem? (i := 7) rfl))) rfl rfl rfl hdV_X11_good ⟨Nat.le_of_ble_eq_true rfl, Nat.le_of_ble_eq_true rfl⟩) hK hP hD hS hA (va_recv hK hP (ci := 10) (q0 := 0) rfl o_Mo) rfl hl.1 rfl (Nat.le_of_ble_eq_true rfl) dX11_takes_1 ⟨Nat.zero_le _, Nat.zero_le _⟩ (fun H locs hP hD hS => ?_)
    have hP : va_P D vwCl (wMo K hMo o1) H := hP
    have hD : va_D A (wMo K hMo o1) := hD
    refine lv_aload_n hx hb dX11_takes_4 rfl (lv_at hl 0 rfl) ?_
    refine lv_iload_n hx hb dX11_takes_5 rfl (lv_at hl 1 rfl) ?_
    obtain ⟨o2, go2, hf⟩ := bd_s hf
    refine ro_Vi (As := [.int p1]) (rest := []) ⟨hx, hb, hml, hown, hts⟩ (c_X11_isPlace l D K F hMo o1 p1 o2 go2) (cwV 1 hts (gcV_X11_isPlace (mB25 _ (List.mem_of_getElem? (i := 7) rfl))) rfl rfl rfl hdV_X11_isPlace ⟨Nat.le_of_ble_eq_true rfl, Nat.le_of_ble_eq_true rfl⟩) hK hP hS hP (va_recv hK hP (ci := 10) (q0 := 0) rfl o_Mo) rfl hl.1 rfl (Nat.le_of_ble_eq_true rfl) dX11_takes_6 ⟨Nat.zero_le _, Nat.zero_le _⟩ (fun H locs hP hS => ?_)
    refine lv_if_eq (tgt := 25) hx hb dX11_takes_9 (by decide) (fun c3 => ?_) (fun c3 => ?_)
    · have hf := it_t hf c3
      exact w25 o1 H locs ls hf hP hD hS (lv_sub hl [0] rfl)
    · have hf := it_f hf c3
      refine lv_aload_n hx hb dX11_takes_12 rfl (lv_at hl 0 rfl) ?_
      refine lv_iload_n hx hb dX11_takes_13 rfl (lv_at hl 2 rfl) ?_
      obtain ⟨o4, go4, hf⟩ := bd_s hf
      refine ro_Vi (As := [.int p2]) (rest := []) ⟨hx, hb, hml, hown, hts⟩ (c_X11_isPlace l D K F hMo o1 p2 o4 go4) (cwV 1 hts (gcV_X11_isPlace (mB25 _ (List.mem_of_getElem? (i := 7) rfl))) rfl rfl rfl hdV_X11_isPlace ⟨Nat.le_of_ble_eq_true rfl, Nat.le_of_ble_eq_true rfl⟩) hK hP hS hP (va_recv hK hP (ci := 10) (q0 := 0) rfl o_Mo) rfl hl.1 rfl (Nat.le_of_ble_eq_true rfl) dX11_takes_14 ⟨Nat.zero_le _, Nat.zero_le _⟩ (fun H locs hP hS => ?_)
      refine lv_if_eq (tgt := 25) hx hb dX11_takes_17 (by decide) (fun c5 => ?_) (fun c5 => ?_)
      · have hf := it_t hf c5
        exact w25 o1 H locs ls hf hP hD hS (lv_sub hl [0] rfl)
      · have hf := it_f hf c5
        refine lv_iload_n hx hb dX11_takes_20 rfl (lv_at hl 1 rfl) ?_
        refine lv_iload_n hx hb dX11_takes_21 rfl (lv_at hl 2 rfl) ?_
        refine lv_icmp_ne (tgt := 31) hx hb dX11_takes_22 (by decide) (fun c6 => ?_) (fun c6 => ?_)
        · have hf := it_f hf c6
          refine lv_aload_n hx hb dX11_takes_31 rfl (lv_at hl 0 rfl) ?_
          refine lv_iload_n hx hb dX11_takes_32 rfl (lv_at hl 1 rfl) ?_
          refine lv_iload_n hx hb dX11_takes_33 rfl (lv_at hl 2 rfl) ?_
          obtain ⟨o7, go7, hf⟩ := bd_s hf
          refine ro_Vi (As := [.int p1, .int p2]) (rest := []) ⟨hx, hb, hml, hown, hts⟩ (c_X11_roadOf l D K F hMo o1 p1 p2 o7 go7) (cwV 2 hts (gcV_X11_roadOf (mB25 _ (List.mem_of_getElem? (i := 11) rfl))) rfl rfl rfl hdV_X11_roadOf ⟨Nat.le_of_ble_eq_true rfl, Nat.le_of_ble_eq_true rfl⟩) hK hP hS hP (va_recv hK hP (ci := 10) (q0 := 0) rfl o_Mo) rfl hl.1 rfl (Nat.le_of_ble_eq_true rfl) dX11_takes_34 ⟨Nat.zero_le _, Nat.zero_le _⟩ (fun H locs hP hS => ?_)
          refine lv_if_ne (tgt := 45) hx hb dX11_takes_37 (by decide) (fun c8 => ?_) (fun c8 => ?_)
          · have hf := it_f hf c8
            refine lv_iload_n hx hb dX11_takes_45 rfl (lv_at hl 3 rfl) ?_
            refine lv_if_eq (tgt := 66) hx hb dX11_takes_46 (by decide) (fun c9 => ?_) (fun c9 => ?_)
            · have hf := it_t hf c9
              refine lv_aload_n hx hb dX11_takes_66 rfl (lv_at hl 0 rfl) ?_
              refine lv_iload_n hx hb dX11_takes_67 rfl (lv_at hl 1 rfl) ?_
              refine lv_iload_n hx hb dX11_takes_68 rfl (lv_at hl 2 rfl) ?_
              obtain ⟨o10, go10, hf⟩ := bd_s hf
              refine ro_Vi (As := [.int p1, .int p2]) (rest := []) ⟨hx, hb, hml, hown, hts⟩ (c_X11_roadOf l D K F hMo o1 p1 p2 o10 go10) (cwV 2 hts (gcV_X11_roadOf (mB25 _ (List.mem_of_getElem? (i := 11) rfl))) rfl rfl rfl hdV_X11_roadOf ⟨Nat.le_of_ble_eq_true rfl, Nat.le_of_ble_eq_true rfl⟩) hK hP hS hP (va_recv hK hP (ci := 10) (q0 := 0) rfl o_Mo) rfl hl.1 rfl (Nat.le_of_ble_eq_true rfl) dX11_takes_69 ⟨Nat.zero_le _, Nat.zero_le _⟩ (fun H locs hP hS => ?_)
              have e9 := Option.some.inj hf
              rw [hQ]
              exact W.iret (v := o10) hx hb hr (fun t ht hW => ⟨⟨o10, o1, rfl, ⟨pr1 e9, pr2 e9⟩, ⟨by rw [ht]; exact hP, va_K.moved hW.alike hK, hD⟩⟩, hS.F ht⟩) hS.2.2 dX11_takes_72
            · have hf := it_f hf c9
              refine lv_aload_n hx hb dX11_takes_49 rfl (lv_at hl 0 rfl) ?_
              refine va_get (D := D) (ci := 10) (v := .ref (hMo 15)) (C := RX11) (T := TX11) (N := 41) hx hb hts iX11 hown hK hP 0 o_Mo rfl 15 (by decide) (htl _ (mB6 _ (List.mem_of_getElem? (i := 3) rfl))) (fun _ h9 => h9) rfl dX11_takes_50 ?_
              refine lv_bipush (v := (119 : Int32)) hx hb dX11_takes_53 (by decide) ?_
              refine lv_bipush (v := (9 : Int32)) hx hb dX11_takes_55 (by decide) ?_
              refine lv_iload_n hx hb dX11_takes_57 rfl (lv_at hl 1 rfl) ?_
              refine lv_imul hx hb dX11_takes_58 ?_
              refine lv_iadd hx hb dX11_takes_59 ?_
              refine lv_iload_n hx hb dX11_takes_60 rfl (lv_at hl 2 rfl) ?_
              refine lv_iadd hx hb dX11_takes_61 ?_
              obtain ⟨g11, hf⟩ := gd_s hf
              refine va_iald hx hb hK hP 3 0 (f := o1.2.2.1 15) a_Mo_15 rfl (vpb_in g11) dX11_takes_62 ?_
              refine lv_topi (fun v12 ev12 => ?_)
              have hf := lz_s hf v12 ev12
              refine lv_goto (tgt := 72) hx hb dX11_takes_63 (by decide) ?_
              have e9 := Option.some.inj hf
              rw [hQ]
              exact W.iret (v := v12) hx hb hr (fun t ht hW => ⟨⟨v12, o1, rfl, ⟨pr1 e9, pr2 e9⟩, ⟨by rw [ht]; exact hP, va_K.moved hW.alike hK, hD⟩⟩, hS.F ht⟩) hS.2.2 dX11_takes_72
          · have hf := it_t hf c8
            refine lv_bipush (v := (-2 : Int32)) hx hb dX11_takes_40 (by decide) ?_
            refine lv_goto (tgt := 72) hx hb dX11_takes_42 (by decide) ?_
            have e9 := Option.some.inj hf
            rw [hQ]
            exact W.iret (v := (-2 : Int32)) hx hb hr (fun t ht hW => ⟨⟨(-2 : Int32), o1, rfl, ⟨pr1 e9, pr2 e9⟩, ⟨by rw [ht]; exact hP, va_K.moved hW.alike hK, hD⟩⟩, hS.F ht⟩) hS.2.2 dX11_takes_72
        · have hf := it_t hf c6
          exact w25 o1 H locs ls hf hP hD hS (lv_sub hl [0] rfl)
  rw [hHe] at hgo
  exact hgo

def wz_X11_pump : List Cond := .code yX11_pump cX11_pump 3 (some .int) :: wsL_law
abbrev r_X11_pump : Room := { frames := 2, cells := 0, slots := 0, locals := 43 }
set_option maxHeartbeats 4000000 in
set_option maxRecDepth 100000 in
theorem c_X11_pump (l : Launch) (D : va_G) (K : Nat → ClassId) (F : Nat) (hMo : Nat → Nat) (sz : Nat) (sMo : MS) (p1 : Int32) (p2 : Int32) (res : Int32 × MS) (hf : f_X11_pump F p1 p2 sMo = some res) : Met l yX11_pump wz_X11_pump r_X11_pump (va_Pc [.ref (hMo 99), .int p1, .int p2] (PW D K (wMo K hMo sMo) sz)) (va_Qi (fun r u => r = res.1 ∧ u = res.2) (fun u t => BW D K (va_A (wMo K hMo sMo) sz) (wMo K hMo u) t) (va_A (wMo K hMo sMo) sz)) 0 0 (va_A (wMo K hMo sMo) sz) := by
  refine Met.ofW (cc := cX11_pump) (maxL := 3) (ret := (some .int)) (by decide) rfl ?_
  intro p e s m args below meth c s₁ B hml hv
  obtain ⟨hargs, hsz, hP, hK, hD0⟩ := hv
  have hx := B.exec
  have hb := B.bytes
  have hr := B.returns
  have hts := atoms_spec (ws := wz_X11_pump) B.pre
  have htl : ∀ w ∈ wsL_law, w.before args s = true := fun w h => hts w (List.mem_cons_of_mem _ h)
  have hown : s.vm.findClass RX11 = some m.cls := findClass_of_methodNamed B.named
  have hlocks := B.notSynchronized
  subst hsz
  have hD := hD0.self (sz := s.heap.size)
  generalize hAe : va_A (wMo K hMo sMo) s.heap.size = A at hD ⊢
  have hA : ∀ q : Nat, s.heap.size ≤ q → A q := fun q h => by rw [← hAe]; exact Or.inr h
  have hS : va_S A s.heap s.heap [] := va_S.rf
  suffices hgo : ∀ Q : State → Prop, Q = MQ below (va_Qi (fun r u => r = res.1 ∧ u = res.2) (fun u t => BW D K A (wMo K hMo u) t) A) args s 0 0 A → W p l e (headSpec wz_X11_pump r_X11_pump).room s m args below meth c s.heap [] 0 0 Q (entryFrame m args 3) from hgo _ rfl
  intro Q hQ
  have w21 : ∀ (sMo : MS), ∀ (H : Heap) (locs : List Loc) (ls : Array Slot), f_X11_pump_21 F p1 p2 sMo = some res → va_P D vwCl (wMo K hMo sMo) H → va_D A (wMo K hMo sMo) → va_S A s.heap H locs → lv_has ls 3 [(0, .ref (hMo 99))] → W p l e (headSpec wz_X11_pump r_X11_pump).room s m args below meth c H locs 0 0 Q (F0 m 21 ls []) := by
    intro sMo H locs ls hf hP hD hS hl
    unfold f_X11_pump_21 at hf
    refine lv_aload_n hx hb dX11_pump_21 rfl (lv_at hl 0 rfl) ?_
    refine lv_iconst (v := (1 : Int32)) hx hb dX11_pump_22 (by decide) ?_
    obtain ⟨o13, go13, hf⟩ := bd_s hf
    refine rs_Vi (As := [.int (1 : Int32)]) (rest := []) ⟨hx, hb, hml, hown, hts⟩ (c_X11_no l D K F hMo H.size sMo (1 : Int32) o13 go13) (cwV 1 hts (gcV_X11_no (mB18 _ (List.mem_of_getElem? (i := 15) rfl))) rfl rfl rfl hdV_X11_no ⟨Nat.le_of_ble_eq_true rfl, Nat.le_of_ble_eq_true rfl⟩) hK hP hD hS hA (va_recv hK hP (ci := 10) (q0 := 0) rfl o_Mo) rfl hl.1 rfl (Nat.le_of_ble_eq_true rfl) dX11_pump_23 ⟨Nat.zero_le _, Nat.zero_le _⟩ (fun H locs hP hD hS => ?_)
    have hP : va_P D vwCl (wMo K hMo o13.2) H := hP
    have hD : va_D A (wMo K hMo o13.2) := hD
    have e9 := Option.some.inj hf
    rw [hQ]
    exact W.iret (v := o13.1) hx hb hr (fun t ht hW => ⟨⟨o13.1, o13.2, rfl, ⟨pr1 e9, pr2 e9⟩, ⟨by rw [ht]; exact hP, va_K.moved hW.alike hK, hD⟩⟩, hS.F ht⟩) hS.2.2 dX11_pump_26
  have w62 : ∀ (sMo : MS), ∀ (H : Heap) (locs : List Loc) (ls : Array Slot), f_X11_pump_62 F p1 p2 sMo = some res → va_P D vwCl (wMo K hMo sMo) H → va_D A (wMo K hMo sMo) → va_S A s.heap H locs → lv_has ls 3 [(0, .ref (hMo 99)), (1, .int p1), (2, .int p2)] → W p l e (headSpec wz_X11_pump r_X11_pump).room s m args below meth c H locs 0 0 Q (F0 m 62 ls []) := by
    intro sMo H locs ls hf hP hD hS hl
    unfold f_X11_pump_62 at hf
    refine lv_aload_n hx hb dX11_pump_62 rfl (lv_at hl 0 rfl) ?_
    refine lv_iload_n hx hb dX11_pump_63 rfl (lv_at hl 1 rfl) ?_
    refine lv_iload_n hx hb dX11_pump_64 rfl (lv_at hl 2 rfl) ?_
    obtain ⟨o12, go12, hf⟩ := bd_s hf
    refine ro_Vi (As := [.int p1, .int p2]) (rest := []) ⟨hx, hb, hml, hown, hts⟩ (c_X11_pumpOf l D K F hMo sMo p1 p2 o12 go12) (cwV 2 hts (gcV_X11_pumpOf (mB23 _ (List.mem_of_getElem? (i := 9) rfl))) rfl rfl rfl hdV_X11_pumpOf ⟨Nat.le_of_ble_eq_true rfl, Nat.le_of_ble_eq_true rfl⟩) hK hP hS hP (va_recv hK hP (ci := 10) (q0 := 0) rfl o_Mo) rfl hl.1 rfl (Nat.le_of_ble_eq_true rfl) dX11_pump_65 ⟨Nat.zero_le _, Nat.zero_le _⟩ (fun H locs hP hS => ?_)
    have e9 := Option.some.inj hf
    rw [hQ]
    exact W.iret (v := o12) hx hb hr (fun t ht hW => ⟨⟨o12, sMo, rfl, ⟨pr1 e9, pr2 e9⟩, ⟨by rw [ht]; exact hP, va_K.moved hW.alike hK, hD⟩⟩, hS.F ht⟩) hS.2.2 dX11_pump_68
  have hen : entryFrame m args 3 = entryFrame m (([.ref (hMo 99), .int p1, .int p2] : List Value).toArray) 3 := by rw [hargs]
  have hl := lv_entry ([.ref (hMo 99), .int p1, .int p2]) (n := 3) (Nat.le_of_ble_eq_true rfl)
  rw [hen, lg_entry_eq]
  generalize (lg_sl ([.ref (hMo 99), .int p1, .int p2]) ++ List.replicate (3 - (lg_sl ([.ref (hMo 99), .int p1, .int p2])).length) Slot.unset).toArray = ls at hl ⊢
  have hl : lv_has ls 3 [(0, .ref (hMo 99)), (1, .int p1), (2, .int p2)] := hl
  unfold f_X11_pump at hf
  obtain ⟨H, hHe⟩ : ∃ z, z = s.heap := ⟨_, rfl⟩
  obtain ⟨locs, hLe⟩ : ∃ z : List Loc, z = [] := ⟨_, rfl⟩
  rw [← hLe]
  have hS : va_S A s.heap H locs := by rw [hHe, hLe]; exact hS
  have hP : va_P D vwCl (wMo K hMo sMo) H := by rw [hHe]; exact hP
  have hgo : W p l e (headSpec wz_X11_pump r_X11_pump).room s m args below meth c H locs 0 0 Q (F0 m 0 ls []) := by
    refine lv_aload_n hx hb dX11_pump_0 rfl (lv_at hl 0 rfl) ?_
    obtain ⟨o1, go1, hf⟩ := bd_s hf
    refine rs_Vv (As := []) (rest := []) ⟨hx, hb, hml, hown, hts⟩ (c_X11_good l D K F hMo H.size sMo o1 go1) (cwV 0 hts (gcV_X11_good (mB18 _ (List.mem_of_getElem? (i := 7) rfl))) rfl rfl rfl hdV_X11_good ⟨Nat.le_of_ble_eq_true rfl, Nat.le_of_ble_eq_true rfl⟩) hK hP hD hS hA (va_recv hK hP (ci := 10) (q0 := 0) rfl o_Mo) rfl hl.1 rfl (Nat.le_of_ble_eq_true rfl) dX11_pump_1 ⟨Nat.zero_le _, Nat.zero_le _⟩ (fun H locs hP hD hS => ?_)
    have hP : va_P D vwCl (wMo K hMo o1) H := hP
    have hD : va_D A (wMo K hMo o1) := hD
    refine lv_aload_n hx hb dX11_pump_4 rfl (lv_at hl 0 rfl) ?_
    refine lv_iload_n hx hb dX11_pump_5 rfl (lv_at hl 1 rfl) ?_
    obtain ⟨o2, go2, hf⟩ := bd_s hf
    refine ro_Vi (As := [.int p1]) (rest := []) ⟨hx, hb, hml, hown, hts⟩ (c_X11_isPlace l D K F hMo o1 p1 o2 go2) (cwV 1 hts (gcV_X11_isPlace (mB25 _ (List.mem_of_getElem? (i := 7) rfl))) rfl rfl rfl hdV_X11_isPlace ⟨Nat.le_of_ble_eq_true rfl, Nat.le_of_ble_eq_true rfl⟩) hK hP hS hP (va_recv hK hP (ci := 10) (q0 := 0) rfl o_Mo) rfl hl.1 rfl (Nat.le_of_ble_eq_true rfl) dX11_pump_6 ⟨Nat.zero_le _, Nat.zero_le _⟩ (fun H locs hP hS => ?_)
    refine lv_if_eq (tgt := 21) hx hb dX11_pump_9 (by decide) (fun c3 => ?_) (fun c3 => ?_)
    · have hf := it_t hf c3
      exact w21 o1 H locs ls hf hP hD hS (lv_sub hl [0] rfl)
    · have hf := it_f hf c3
      refine lv_iload_n hx hb dX11_pump_12 rfl (lv_at hl 2 rfl) ?_
      refine lv_iconst (v := (0 : Int32)) hx hb dX11_pump_13 (by decide) ?_
      refine lv_iconst (v := (2 : Int32)) hx hb dX11_pump_14 (by decide) ?_
      obtain ⟨o4, go4, hf⟩ := bd_s hf
      refine ro_Si (As := [.int p2, .int (0 : Int32), .int (2 : Int32)]) (rest := []) ⟨hx, hb, hml, hown, hts⟩ (c_X11_in l D K F p2 (0 : Int32) (2 : Int32) o4 go4) (va_cwS 3 hts (gcS_X11_in (mB18 _ (List.mem_of_getElem? (i := 12) rfl))) rfl rfl rfl hdS_X11_in ⟨Nat.le_of_ble_eq_true rfl, Nat.le_of_ble_eq_true rfl⟩) hK hP hS va_Pnil rfl hl.1 rfl (Nat.le_of_ble_eq_true rfl) dX11_pump_15 ⟨Nat.zero_le _, Nat.zero_le _⟩ (fun H locs hP hS => ?_)
      refine lv_if_ne (tgt := 27) hx hb dX11_pump_18 (by decide) (fun c5 => ?_) (fun c5 => ?_)
      · have hf := it_f hf c5
        refine lv_aload_n hx hb dX11_pump_27 rfl (lv_at hl 0 rfl) ?_
        refine lv_iload_n hx hb dX11_pump_28 rfl (lv_at hl 1 rfl) ?_
        refine lv_iconst (v := (0 : Int32)) hx hb dX11_pump_29 (by decide) ?_
        obtain ⟨o6, go6, hf⟩ := bd_s hf
        refine ro_Vi (As := [.int p1, .int (0 : Int32)]) (rest := []) ⟨hx, hb, hml, hown, hts⟩ (c_X11_pumpOf l D K F hMo o1 p1 (0 : Int32) o6 go6) (cwV 2 hts (gcV_X11_pumpOf (mB23 _ (List.mem_of_getElem? (i := 9) rfl))) rfl rfl rfl hdV_X11_pumpOf ⟨Nat.le_of_ble_eq_true rfl, Nat.le_of_ble_eq_true rfl⟩) hK hP hS hP (va_recv hK hP (ci := 10) (q0 := 0) rfl o_Mo) rfl hl.1 rfl (Nat.le_of_ble_eq_true rfl) dX11_pump_30 ⟨Nat.zero_le _, Nat.zero_le _⟩ (fun H locs hP hS => ?_)
        refine lv_if_ne (tgt := 43) hx hb dX11_pump_33 (by decide) (fun c7 => ?_) (fun c7 => ?_)
        · have hf := it_f hf c7
          refine lv_iload_n hx hb dX11_pump_43 rfl (lv_at hl 2 rfl) ?_
          refine lv_iconst (v := (1 : Int32)) hx hb dX11_pump_44 (by decide) ?_
          refine lv_icmp_ne (tgt := 62) hx hb dX11_pump_45 (by decide) (fun c8 => ?_) (fun c8 => ?_)
          · have hf := it_f hf c8
            exact w62 o1 H locs ls hf hP hD hS (lv_sub hl [0, 1, 2] rfl)
          · have hf := it_t hf c8
            refine lv_aload_n hx hb dX11_pump_48 rfl (lv_at hl 0 rfl) ?_
            refine lv_iload_n hx hb dX11_pump_49 rfl (lv_at hl 1 rfl) ?_
            refine lv_iconst (v := (1 : Int32)) hx hb dX11_pump_50 (by decide) ?_
            obtain ⟨o9, go9, hf⟩ := bd_s hf
            refine ro_Vi (As := [.int p1, .int (1 : Int32)]) (rest := []) ⟨hx, hb, hml, hown, hts⟩ (c_X11_pumpOf l D K F hMo o1 p1 (1 : Int32) o9 go9) (cwV 2 hts (gcV_X11_pumpOf (mB23 _ (List.mem_of_getElem? (i := 9) rfl))) rfl rfl rfl hdV_X11_pumpOf ⟨Nat.le_of_ble_eq_true rfl, Nat.le_of_ble_eq_true rfl⟩) hK hP hS hP (va_recv hK hP (ci := 10) (q0 := 0) rfl o_Mo) rfl hl.1 rfl (Nat.le_of_ble_eq_true rfl) dX11_pump_51 ⟨Nat.zero_le _, Nat.zero_le _⟩ (fun H locs hP hS => ?_)
            refine lv_if_ne (tgt := 62) hx hb dX11_pump_54 (by decide) (fun c10 => ?_) (fun c10 => ?_)
            · have hf := it_f hf c10
              exact w62 o1 H locs ls hf hP hD hS (lv_sub hl [0, 1, 2] rfl)
            · have hf := it_t hf c10
              refine lv_bipush (v := (-2 : Int32)) hx hb dX11_pump_57 (by decide) ?_
              refine lv_goto (tgt := 68) hx hb dX11_pump_59 (by decide) ?_
              have e9 := Option.some.inj hf
              rw [hQ]
              exact W.iret (v := (-2 : Int32)) hx hb hr (fun t ht hW => ⟨⟨(-2 : Int32), o1, rfl, ⟨pr1 e9, pr2 e9⟩, ⟨by rw [ht]; exact hP, va_K.moved hW.alike hK, hD⟩⟩, hS.F ht⟩) hS.2.2 dX11_pump_68
        · have hf := it_t hf c7
          refine lv_aload_n hx hb dX11_pump_36 rfl (lv_at hl 0 rfl) ?_
          refine lv_bipush (v := (6 : Int32)) hx hb dX11_pump_37 (by decide) ?_
          obtain ⟨o11, go11, hf⟩ := bd_s hf
          refine rs_Vi (As := [.int (6 : Int32)]) (rest := []) ⟨hx, hb, hml, hown, hts⟩ (c_X11_no l D K F hMo H.size o1 (6 : Int32) o11 go11) (cwV 1 hts (gcV_X11_no (mB18 _ (List.mem_of_getElem? (i := 15) rfl))) rfl rfl rfl hdV_X11_no ⟨Nat.le_of_ble_eq_true rfl, Nat.le_of_ble_eq_true rfl⟩) hK hP hD hS hA (va_recv hK hP (ci := 10) (q0 := 0) rfl o_Mo) rfl hl.1 rfl (Nat.le_of_ble_eq_true rfl) dX11_pump_39 ⟨Nat.zero_le _, Nat.zero_le _⟩ (fun H locs hP hD hS => ?_)
          have hP : va_P D vwCl (wMo K hMo o11.2) H := hP
          have hD : va_D A (wMo K hMo o11.2) := hD
          have e9 := Option.some.inj hf
          rw [hQ]
          exact W.iret (v := o11.1) hx hb hr (fun t ht hW => ⟨⟨o11.1, o11.2, rfl, ⟨pr1 e9, pr2 e9⟩, ⟨by rw [ht]; exact hP, va_K.moved hW.alike hK, hD⟩⟩, hS.F ht⟩) hS.2.2 dX11_pump_42
      · have hf := it_t hf c5
        exact w21 o1 H locs ls hf hP hD hS (lv_sub hl [0] rfl)
  rw [hHe] at hgo
  exact hgo

def wz_X11_station : List Cond := .code yX11_station cX11_station 2 (some .int) :: wsL_law
abbrev r_X11_station : Room := { frames := 2, cells := 0, slots := 0, locals := 43 }
set_option maxHeartbeats 4000000 in
set_option maxRecDepth 100000 in
theorem c_X11_station (l : Launch) (D : va_G) (K : Nat → ClassId) (F : Nat) (hMo : Nat → Nat) (sz : Nat) (sMo : MS) (p1 : Int32) (res : Int32 × MS) (hf : f_X11_station F p1 sMo = some res) : Met l yX11_station wz_X11_station r_X11_station (va_Pc [.ref (hMo 99), .int p1] (PW D K (wMo K hMo sMo) sz)) (va_Qi (fun r u => r = res.1 ∧ u = res.2) (fun u t => BW D K (va_A (wMo K hMo sMo) sz) (wMo K hMo u) t) (va_A (wMo K hMo sMo) sz)) 0 0 (va_A (wMo K hMo sMo) sz) := by
  refine Met.ofW (cc := cX11_station) (maxL := 2) (ret := (some .int)) (by decide) rfl ?_
  intro p e s m args below meth c s₁ B hml hv
  obtain ⟨hargs, hsz, hP, hK, hD0⟩ := hv
  have hx := B.exec
  have hb := B.bytes
  have hr := B.returns
  have hts := atoms_spec (ws := wz_X11_station) B.pre
  have htl : ∀ w ∈ wsL_law, w.before args s = true := fun w h => hts w (List.mem_cons_of_mem _ h)
  have hown : s.vm.findClass RX11 = some m.cls := findClass_of_methodNamed B.named
  have hlocks := B.notSynchronized
  subst hsz
  have hD := hD0.self (sz := s.heap.size)
  generalize hAe : va_A (wMo K hMo sMo) s.heap.size = A at hD ⊢
  have hA : ∀ q : Nat, s.heap.size ≤ q → A q := fun q h => by rw [← hAe]; exact Or.inr h
  have hS : va_S A s.heap s.heap [] := va_S.rf
  suffices hgo : ∀ Q : State → Prop, Q = MQ below (va_Qi (fun r u => r = res.1 ∧ u = res.2) (fun u t => BW D K A (wMo K hMo u) t) A) args s 0 0 A → W p l e (headSpec wz_X11_station r_X11_station).room s m args below meth c s.heap [] 0 0 Q (entryFrame m args 2) from hgo _ rfl
  intro Q hQ
  have hen : entryFrame m args 2 = entryFrame m (([.ref (hMo 99), .int p1] : List Value).toArray) 2 := by rw [hargs]
  have hl := lv_entry ([.ref (hMo 99), .int p1]) (n := 2) (Nat.le_of_ble_eq_true rfl)
  rw [hen, lg_entry_eq]
  generalize (lg_sl ([.ref (hMo 99), .int p1]) ++ List.replicate (2 - (lg_sl ([.ref (hMo 99), .int p1])).length) Slot.unset).toArray = ls at hl ⊢
  have hl : lv_has ls 2 [(0, .ref (hMo 99)), (1, .int p1)] := hl
  unfold f_X11_station at hf
  obtain ⟨H, hHe⟩ : ∃ z, z = s.heap := ⟨_, rfl⟩
  obtain ⟨locs, hLe⟩ : ∃ z : List Loc, z = [] := ⟨_, rfl⟩
  rw [← hLe]
  have hS : va_S A s.heap H locs := by rw [hHe, hLe]; exact hS
  have hP : va_P D vwCl (wMo K hMo sMo) H := by rw [hHe]; exact hP
  have hgo : W p l e (headSpec wz_X11_station r_X11_station).room s m args below meth c H locs 0 0 Q (F0 m 0 ls []) := by
    refine lv_aload_n hx hb dX11_station_0 rfl (lv_at hl 0 rfl) ?_
    obtain ⟨o1, go1, hf⟩ := bd_s hf
    refine rs_Vv (As := []) (rest := []) ⟨hx, hb, hml, hown, hts⟩ (c_X11_good l D K F hMo H.size sMo o1 go1) (cwV 0 hts (gcV_X11_good (mB18 _ (List.mem_of_getElem? (i := 7) rfl))) rfl rfl rfl hdV_X11_good ⟨Nat.le_of_ble_eq_true rfl, Nat.le_of_ble_eq_true rfl⟩) hK hP hD hS hA (va_recv hK hP (ci := 10) (q0 := 0) rfl o_Mo) rfl hl.1 rfl (Nat.le_of_ble_eq_true rfl) dX11_station_1 ⟨Nat.zero_le _, Nat.zero_le _⟩ (fun H locs hP hD hS => ?_)
    have hP : va_P D vwCl (wMo K hMo o1) H := hP
    have hD : va_D A (wMo K hMo o1) := hD
    refine lv_aload_n hx hb dX11_station_4 rfl (lv_at hl 0 rfl) ?_
    refine lv_iload_n hx hb dX11_station_5 rfl (lv_at hl 1 rfl) ?_
    obtain ⟨o2, go2, hf⟩ := bd_s hf
    refine ro_Vi (As := [.int p1]) (rest := []) ⟨hx, hb, hml, hown, hts⟩ (c_X11_isStation l D K F hMo o1 p1 o2 go2) (cwV 1 hts (gcV_X11_isStation (mB26 _ (List.mem_of_getElem? (i := 15) rfl))) rfl rfl rfl hdV_X11_isStation ⟨Nat.le_of_ble_eq_true rfl, Nat.le_of_ble_eq_true rfl⟩) hK hP hS hP (va_recv hK hP (ci := 10) (q0 := 0) rfl o_Mo) rfl hl.1 rfl (Nat.le_of_ble_eq_true rfl) dX11_station_6 ⟨Nat.zero_le _, Nat.zero_le _⟩ (fun H locs hP hS => ?_)
    refine lv_if_eq (tgt := 20) hx hb dX11_station_9 (by decide) (fun c3 => ?_) (fun c3 => ?_)
    · have hf := it_t hf c3
      refine lv_aload_n hx hb dX11_station_20 rfl (lv_at hl 0 rfl) ?_
      refine lv_iconst (v := (1 : Int32)) hx hb dX11_station_21 (by decide) ?_
      obtain ⟨o4, go4, hf⟩ := bd_s hf
      refine rs_Vi (As := [.int (1 : Int32)]) (rest := []) ⟨hx, hb, hml, hown, hts⟩ (c_X11_no l D K F hMo H.size o1 (1 : Int32) o4 go4) (cwV 1 hts (gcV_X11_no (mB18 _ (List.mem_of_getElem? (i := 15) rfl))) rfl rfl rfl hdV_X11_no ⟨Nat.le_of_ble_eq_true rfl, Nat.le_of_ble_eq_true rfl⟩) hK hP hD hS hA (va_recv hK hP (ci := 10) (q0 := 0) rfl o_Mo) rfl hl.1 rfl (Nat.le_of_ble_eq_true rfl) dX11_station_22 ⟨Nat.zero_le _, Nat.zero_le _⟩ (fun H locs hP hD hS => ?_)
      have hP : va_P D vwCl (wMo K hMo o4.2) H := hP
      have hD : va_D A (wMo K hMo o4.2) := hD
      have e9 := Option.some.inj hf
      rw [hQ]
      exact W.iret (v := o4.1) hx hb hr (fun t ht hW => ⟨⟨o4.1, o4.2, rfl, ⟨pr1 e9, pr2 e9⟩, ⟨by rw [ht]; exact hP, va_K.moved hW.alike hK, hD⟩⟩, hS.F ht⟩) hS.2.2 dX11_station_25
    · have hf := it_f hf c3
      refine lv_aload_n hx hb dX11_station_12 rfl (lv_at hl 0 rfl) ?_
      refine lv_iload_n hx hb dX11_station_13 rfl (lv_at hl 1 rfl) ?_
      obtain ⟨o5, go5, hf⟩ := bd_s hf
      refine ro_Vi (As := [.int p1]) (rest := []) ⟨hx, hb, hml, hown, hts⟩ (c_X11_placeOf l D K F hMo o1 p1 o5 go5) (cwV 1 hts (gcV_X11_placeOf (mB26 _ (List.mem_of_getElem? (i := 19) rfl))) rfl rfl rfl hdV_X11_placeOf ⟨Nat.le_of_ble_eq_true rfl, Nat.le_of_ble_eq_true rfl⟩) hK hP hS hP (va_recv hK hP (ci := 10) (q0 := 0) rfl o_Mo) rfl hl.1 rfl (Nat.le_of_ble_eq_true rfl) dX11_station_14 ⟨Nat.zero_le _, Nat.zero_le _⟩ (fun H locs hP hS => ?_)
      refine lv_goto (tgt := 25) hx hb dX11_station_17 (by decide) ?_
      have e9 := Option.some.inj hf
      rw [hQ]
      exact W.iret (v := o5) hx hb hr (fun t ht hW => ⟨⟨o5, o1, rfl, ⟨pr1 e9, pr2 e9⟩, ⟨by rw [ht]; exact hP, va_K.moved hW.alike hK, hD⟩⟩, hS.F ht⟩) hS.2.2 dX11_station_25
  rw [hHe] at hgo
  exact hgo

theorem gcV_X11_legsOf {T0 : Cond} {own : String} {i : Nat} (h : Cond.methodLink own i yX11_legsOf ∈ wsL_law) : GoodIn (T0 :: wsL_law) (wsV own i RX11 yX11_legsOf wz_X11_legsOf) := gV h (mB27 _ (List.mem_of_getElem? (i := 12) rfl)) (mB27 _ (List.mem_of_getElem? (i := 13) rfl)) (mB1 _ (List.mem_of_getElem? (i := 5) rfl)) (mB27 _ (List.mem_of_getElem? (i := 14) rfl))
theorem hdV_X11_legsOf : yX11_legsOf.cls = RX11 ∧ yX11_legsOf.cls ≠ "java/lang/invoke/MethodHandle" ∧ yX11_legsOf.cls ≠ "java/lang/invoke/VarHandle" ∧ (parseMethodDescriptor yX11_legsOf.desc).map (fun d => d.parameters.length) = some 2 := by decide +kernel
def wz_X11_legs : List Cond := .code yX11_legs cX11_legs 3 (some .int) :: wsL_law
abbrev r_X11_legs : Room := { frames := 3, cells := 0, slots := 0, locals := 67 }
set_option maxHeartbeats 4000000 in
set_option maxRecDepth 100000 in
theorem c_X11_legs (l : Launch) (D : va_G) (K : Nat → ClassId) (F : Nat) (hMo : Nat → Nat) (sz : Nat) (sMo : MS) (p1 : Int32) (p2 : Int32) (res : Int32 × MS) (hf : f_X11_legs F p1 p2 sMo = some res) : Met l yX11_legs wz_X11_legs r_X11_legs (va_Pc [.ref (hMo 99), .int p1, .int p2] (PW D K (wMo K hMo sMo) sz)) (va_Qi (fun r u => r = res.1 ∧ u = res.2) (fun u t => BW D K (va_A (wMo K hMo sMo) sz) (wMo K hMo u) t) (va_A (wMo K hMo sMo) sz)) 0 0 (va_A (wMo K hMo sMo) sz) := by
  refine Met.ofW (cc := cX11_legs) (maxL := 3) (ret := (some .int)) (by decide) rfl ?_
  intro p e s m args below meth c s₁ B hml hv
  obtain ⟨hargs, hsz, hP, hK, hD0⟩ := hv
  have hx := B.exec
  have hb := B.bytes
  have hr := B.returns
  have hts := atoms_spec (ws := wz_X11_legs) B.pre
  have htl : ∀ w ∈ wsL_law, w.before args s = true := fun w h => hts w (List.mem_cons_of_mem _ h)
  have hown : s.vm.findClass RX11 = some m.cls := findClass_of_methodNamed B.named
  have hlocks := B.notSynchronized
  subst hsz
  have hD := hD0.self (sz := s.heap.size)
  generalize hAe : va_A (wMo K hMo sMo) s.heap.size = A at hD ⊢
  have hA : ∀ q : Nat, s.heap.size ≤ q → A q := fun q h => by rw [← hAe]; exact Or.inr h
  have hS : va_S A s.heap s.heap [] := va_S.rf
  suffices hgo : ∀ Q : State → Prop, Q = MQ below (va_Qi (fun r u => r = res.1 ∧ u = res.2) (fun u t => BW D K A (wMo K hMo u) t) A) args s 0 0 A → W p l e (headSpec wz_X11_legs r_X11_legs).room s m args below meth c s.heap [] 0 0 Q (entryFrame m args 3) from hgo _ rfl
  intro Q hQ
  have w34 : ∀ (sMo : MS), ∀ (H : Heap) (locs : List Loc) (ls : Array Slot), f_X11_legs_34 F p1 p2 sMo = some res → va_P D vwCl (wMo K hMo sMo) H → va_D A (wMo K hMo sMo) → va_S A s.heap H locs → lv_has ls 3 [(0, .ref (hMo 99))] → W p l e (headSpec wz_X11_legs r_X11_legs).room s m args below meth c H locs 0 0 Q (F0 m 34 ls []) := by
    intro sMo H locs ls hf hP hD hS hl
    unfold f_X11_legs_34 at hf
    refine lv_aload_n hx hb dX11_legs_34 rfl (lv_at hl 0 rfl) ?_
    refine lv_iconst (v := (1 : Int32)) hx hb dX11_legs_35 (by decide) ?_
    obtain ⟨o8, go8, hf⟩ := bd_s hf
    refine rs_Vi (As := [.int (1 : Int32)]) (rest := []) ⟨hx, hb, hml, hown, hts⟩ (c_X11_no l D K F hMo H.size sMo (1 : Int32) o8 go8) (cwV 1 hts (gcV_X11_no (mB18 _ (List.mem_of_getElem? (i := 15) rfl))) rfl rfl rfl hdV_X11_no ⟨Nat.le_of_ble_eq_true rfl, Nat.le_of_ble_eq_true rfl⟩) hK hP hD hS hA (va_recv hK hP (ci := 10) (q0 := 0) rfl o_Mo) rfl hl.1 rfl (Nat.le_of_ble_eq_true rfl) dX11_legs_36 ⟨Nat.zero_le _, Nat.zero_le _⟩ (fun H locs hP hD hS => ?_)
    have hP : va_P D vwCl (wMo K hMo o8.2) H := hP
    have hD : va_D A (wMo K hMo o8.2) := hD
    have e9 := Option.some.inj hf
    rw [hQ]
    exact W.iret (v := o8.1) hx hb hr (fun t ht hW => ⟨⟨o8.1, o8.2, rfl, ⟨pr1 e9, pr2 e9⟩, ⟨by rw [ht]; exact hP, va_K.moved hW.alike hK, hD⟩⟩, hS.F ht⟩) hS.2.2 dX11_legs_39
  have hen : entryFrame m args 3 = entryFrame m (([.ref (hMo 99), .int p1, .int p2] : List Value).toArray) 3 := by rw [hargs]
  have hl := lv_entry ([.ref (hMo 99), .int p1, .int p2]) (n := 3) (Nat.le_of_ble_eq_true rfl)
  rw [hen, lg_entry_eq]
  generalize (lg_sl ([.ref (hMo 99), .int p1, .int p2]) ++ List.replicate (3 - (lg_sl ([.ref (hMo 99), .int p1, .int p2])).length) Slot.unset).toArray = ls at hl ⊢
  have hl : lv_has ls 3 [(0, .ref (hMo 99)), (1, .int p1), (2, .int p2)] := hl
  unfold f_X11_legs at hf
  obtain ⟨H, hHe⟩ : ∃ z, z = s.heap := ⟨_, rfl⟩
  obtain ⟨locs, hLe⟩ : ∃ z : List Loc, z = [] := ⟨_, rfl⟩
  rw [← hLe]
  have hS : va_S A s.heap H locs := by rw [hHe, hLe]; exact hS
  have hP : va_P D vwCl (wMo K hMo sMo) H := by rw [hHe]; exact hP
  have hgo : W p l e (headSpec wz_X11_legs r_X11_legs).room s m args below meth c H locs 0 0 Q (F0 m 0 ls []) := by
    refine lv_aload_n hx hb dX11_legs_0 rfl (lv_at hl 0 rfl) ?_
    obtain ⟨o1, go1, hf⟩ := bd_s hf
    refine rs_Vv (As := []) (rest := []) ⟨hx, hb, hml, hown, hts⟩ (c_X11_good l D K F hMo H.size sMo o1 go1) (cwV 0 hts (gcV_X11_good (mB18 _ (List.mem_of_getElem? (i := 7) rfl))) rfl rfl rfl hdV_X11_good ⟨Nat.le_of_ble_eq_true rfl, Nat.le_of_ble_eq_true rfl⟩) hK hP hD hS hA (va_recv hK hP (ci := 10) (q0 := 0) rfl o_Mo) rfl hl.1 rfl (Nat.le_of_ble_eq_true rfl) dX11_legs_1 ⟨Nat.zero_le _, Nat.zero_le _⟩ (fun H locs hP hD hS => ?_)
    have hP : va_P D vwCl (wMo K hMo o1) H := hP
    have hD : va_D A (wMo K hMo o1) := hD
    refine lv_aload_n hx hb dX11_legs_4 rfl (lv_at hl 0 rfl) ?_
    refine lv_iload_n hx hb dX11_legs_5 rfl (lv_at hl 1 rfl) ?_
    obtain ⟨o2, go2, hf⟩ := bd_s hf
    refine ro_Vi (As := [.int p1]) (rest := []) ⟨hx, hb, hml, hown, hts⟩ (c_X11_isStation l D K F hMo o1 p1 o2 go2) (cwV 1 hts (gcV_X11_isStation (mB26 _ (List.mem_of_getElem? (i := 15) rfl))) rfl rfl rfl hdV_X11_isStation ⟨Nat.le_of_ble_eq_true rfl, Nat.le_of_ble_eq_true rfl⟩) hK hP hS hP (va_recv hK hP (ci := 10) (q0 := 0) rfl o_Mo) rfl hl.1 rfl (Nat.le_of_ble_eq_true rfl) dX11_legs_6 ⟨Nat.zero_le _, Nat.zero_le _⟩ (fun H locs hP hS => ?_)
    refine lv_if_eq (tgt := 34) hx hb dX11_legs_9 (by decide) (fun c3 => ?_) (fun c3 => ?_)
    · have hf := it_t hf c3
      exact w34 o1 H locs ls hf hP hD hS (lv_sub hl [0] rfl)
    · have hf := it_f hf c3
      refine lv_aload_n hx hb dX11_legs_12 rfl (lv_at hl 0 rfl) ?_
      refine lv_iload_n hx hb dX11_legs_13 rfl (lv_at hl 2 rfl) ?_
      obtain ⟨o4, go4, hf⟩ := bd_s hf
      refine ro_Vi (As := [.int p2]) (rest := []) ⟨hx, hb, hml, hown, hts⟩ (c_X11_isStation l D K F hMo o1 p2 o4 go4) (cwV 1 hts (gcV_X11_isStation (mB26 _ (List.mem_of_getElem? (i := 15) rfl))) rfl rfl rfl hdV_X11_isStation ⟨Nat.le_of_ble_eq_true rfl, Nat.le_of_ble_eq_true rfl⟩) hK hP hS hP (va_recv hK hP (ci := 10) (q0 := 0) rfl o_Mo) rfl hl.1 rfl (Nat.le_of_ble_eq_true rfl) dX11_legs_14 ⟨Nat.zero_le _, Nat.zero_le _⟩ (fun H locs hP hS => ?_)
      refine lv_if_eq (tgt := 34) hx hb dX11_legs_17 (by decide) (fun c5 => ?_) (fun c5 => ?_)
      · have hf := it_t hf c5
        exact w34 o1 H locs ls hf hP hD hS (lv_sub hl [0] rfl)
      · have hf := it_f hf c5
        refine lv_iload_n hx hb dX11_legs_20 rfl (lv_at hl 1 rfl) ?_
        refine lv_iload_n hx hb dX11_legs_21 rfl (lv_at hl 2 rfl) ?_
        refine lv_icmp_ge (tgt := 34) hx hb dX11_legs_22 (by decide) (fun c6 => ?_) (fun c6 => ?_)
        · have hf := it_t hf c6
          exact w34 o1 H locs ls hf hP hD hS (lv_sub hl [0] rfl)
        · have hf := it_f hf c6
          refine lv_aload_n hx hb dX11_legs_25 rfl (lv_at hl 0 rfl) ?_
          refine lv_iload_n hx hb dX11_legs_26 rfl (lv_at hl 1 rfl) ?_
          refine lv_iload_n hx hb dX11_legs_27 rfl (lv_at hl 2 rfl) ?_
          obtain ⟨o7, go7, hf⟩ := bd_s hf
          refine ro_Vi (As := [.int p1, .int p2]) (rest := []) ⟨hx, hb, hml, hown, hts⟩ (c_X11_legsOf l D K F hMo o1 p1 p2 o7 go7) (cwV 2 hts (gcV_X11_legsOf (mB27 _ (List.mem_of_getElem? (i := 11) rfl))) rfl rfl rfl hdV_X11_legsOf ⟨Nat.le_of_ble_eq_true rfl, Nat.le_of_ble_eq_true rfl⟩) hK hP hS hP (va_recv hK hP (ci := 10) (q0 := 0) rfl o_Mo) rfl hl.1 rfl (Nat.le_of_ble_eq_true rfl) dX11_legs_28 ⟨Nat.zero_le _, Nat.zero_le _⟩ (fun H locs hP hS => ?_)
          refine lv_goto (tgt := 39) hx hb dX11_legs_31 (by decide) ?_
          have e9 := Option.some.inj hf
          rw [hQ]
          exact W.iret (v := o7) hx hb hr (fun t ht hW => ⟨⟨o7, o1, rfl, ⟨pr1 e9, pr2 e9⟩, ⟨by rw [ht]; exact hP, va_K.moved hW.alike hK, hD⟩⟩, hS.F ht⟩) hS.2.2 dX11_legs_39
  rw [hHe] at hgo
  exact hgo

def wz_X11_lasts : List Cond := .code yX11_lasts cX11_lasts 4 (some .int) :: wsL_law
abbrev r_X11_lasts : Room := { frames := 3, cells := 0, slots := 0, locals := 67 }
set_option maxHeartbeats 4000000 in
set_option maxRecDepth 100000 in
theorem c_X11_lasts (l : Launch) (D : va_G) (K : Nat → ClassId) (F : Nat) (hMo : Nat → Nat) (sz : Nat) (sMo : MS) (p1 : Int32) (p2 : Int32) (res : Int32 × MS) (hf : f_X11_lasts F p1 p2 sMo = some res) : Met l yX11_lasts wz_X11_lasts r_X11_lasts (va_Pc [.ref (hMo 99), .int p1, .int p2] (PW D K (wMo K hMo sMo) sz)) (va_Qi (fun r u => r = res.1 ∧ u = res.2) (fun u t => BW D K (va_A (wMo K hMo sMo) sz) (wMo K hMo u) t) (va_A (wMo K hMo sMo) sz)) 0 0 (va_A (wMo K hMo sMo) sz) := by
  refine Met.ofW (cc := cX11_lasts) (maxL := 4) (ret := (some .int)) (by decide) rfl ?_
  intro p e s m args below meth c s₁ B hml hv
  obtain ⟨hargs, hsz, hP, hK, hD0⟩ := hv
  have hx := B.exec
  have hb := B.bytes
  have hr := B.returns
  have hts := atoms_spec (ws := wz_X11_lasts) B.pre
  have htl : ∀ w ∈ wsL_law, w.before args s = true := fun w h => hts w (List.mem_cons_of_mem _ h)
  have hown : s.vm.findClass RX11 = some m.cls := findClass_of_methodNamed B.named
  have hlocks := B.notSynchronized
  subst hsz
  have hD := hD0.self (sz := s.heap.size)
  generalize hAe : va_A (wMo K hMo sMo) s.heap.size = A at hD ⊢
  have hA : ∀ q : Nat, s.heap.size ≤ q → A q := fun q h => by rw [← hAe]; exact Or.inr h
  have hS : va_S A s.heap s.heap [] := va_S.rf
  have iX11 : ∀ w ∈ wsX110, w ∈ wz_X11_lasts := fun w h => List.mem_cons_of_mem _ (inlX11 w h)
  suffices hgo : ∀ Q : State → Prop, Q = MQ below (va_Qi (fun r u => r = res.1 ∧ u = res.2) (fun u t => BW D K A (wMo K hMo u) t) A) args s 0 0 A → W p l e (headSpec wz_X11_lasts r_X11_lasts).room s m args below meth c s.heap [] 0 0 Q (entryFrame m args 4) from hgo _ rfl
  intro Q hQ
  have w40 : ∀ (n : Nat), ∀ (x3 : Int32), ∀ (sMo : MS), ∀ (H : Heap) (locs : List Loc) (ls : Array Slot), f_X11_lasts_40 F p1 p2 n x3 sMo = some res → va_P D vwCl (wMo K hMo sMo) H → va_D A (wMo K hMo sMo) → va_S A s.heap H locs → lv_has ls 4 [(0, .ref (hMo 99)), (1, .int p1), (2, .int p2), (3, .int x3)] → W p l e (headSpec wz_X11_lasts r_X11_lasts).room s m args below meth c H locs 0 0 Q (F0 m 40 ls []) := by
    intro n
    induction n with
    | zero =>
      intro x3 sMo H locs ls hf
      exact absurd (show none = some res from hf) (fun h => nomatch h)
    | succ n ih =>
      intro x3 sMo H locs ls hf hP hD hS hl
      rw [f_X11_lasts_40] at hf
      refine lv_iload_n hx hb dX11_lasts_40 rfl (lv_at hl 3 rfl) ?_
      refine lv_aload_n hx hb dX11_lasts_41 rfl (lv_at hl 0 rfl) ?_
      obtain ⟨o10, go10, hf⟩ := bd_s hf
      refine ro_Vi (As := []) (rest := [.int x3]) ⟨hx, hb, hml, hown, hts⟩ (c_X11_lastStation l D K F hMo sMo o10 go10) (cwV 0 hts (gcV_X11_lastStation (mB28 _ (List.mem_of_getElem? (i := 11) rfl))) rfl rfl rfl hdV_X11_lastStation ⟨Nat.le_of_ble_eq_true rfl, Nat.le_of_ble_eq_true rfl⟩) hK hP hS hP (va_recv hK hP (ci := 10) (q0 := 0) rfl o_Mo) rfl hl.1 rfl (Nat.le_of_ble_eq_true rfl) dX11_lasts_42 ⟨Nat.zero_le _, Nat.zero_le _⟩ (fun H locs hP hS => ?_)
      refine lv_icmp_ge (tgt := 66) hx hb dX11_lasts_45 (by decide) (fun c11 => ?_) (fun c11 => ?_)
      · have hf := it_t hf c11
        refine lv_iload_n hx hb dX11_lasts_66 rfl (lv_at hl 3 rfl) ?_
        have e9 := Option.some.inj hf
        rw [hQ]
        exact W.iret (v := x3) hx hb hr (fun t ht hW => ⟨⟨x3, sMo, rfl, ⟨pr1 e9, pr2 e9⟩, ⟨by rw [ht]; exact hP, va_K.moved hW.alike hK, hD⟩⟩, hS.F ht⟩) hS.2.2 dX11_lasts_67
      · have hf := it_f hf c11
        refine lv_aload_n hx hb dX11_lasts_48 rfl (lv_at hl 0 rfl) ?_
        refine lv_iload_n hx hb dX11_lasts_49 rfl (lv_at hl 1 rfl) ?_
        refine lv_iload_n hx hb dX11_lasts_50 rfl (lv_at hl 3 rfl) ?_
        refine lv_iconst (v := (1 : Int32)) hx hb dX11_lasts_51 (by decide) ?_
        refine lv_iadd hx hb dX11_lasts_52 ?_
        obtain ⟨o12, go12, hf⟩ := bd_s hf
        refine ro_Vi (As := [.int p1, .int (x3 + (1 : Int32))]) (rest := []) ⟨hx, hb, hml, hown, hts⟩ (c_X11_legsOf l D K F hMo sMo p1 (x3 + (1 : Int32)) o12 go12) (cwV 2 hts (gcV_X11_legsOf (mB27 _ (List.mem_of_getElem? (i := 11) rfl))) rfl rfl rfl hdV_X11_legsOf ⟨Nat.le_of_ble_eq_true rfl, Nat.le_of_ble_eq_true rfl⟩) hK hP hS hP (va_recv hK hP (ci := 10) (q0 := 0) rfl o_Mo) rfl hl.1 rfl (Nat.le_of_ble_eq_true rfl) dX11_lasts_53 ⟨Nat.zero_le _, Nat.zero_le _⟩ (fun H locs hP hS => ?_)
        refine lv_iload_n hx hb dX11_lasts_56 rfl (lv_at hl 2 rfl) ?_
        refine lv_icmp_gt (tgt := 66) hx hb dX11_lasts_57 (by decide) (fun c13 => ?_) (fun c13 => ?_)
        · have hf := it_t hf c13
          refine lv_iload_n hx hb dX11_lasts_66 rfl (lv_at hl 3 rfl) ?_
          have e9 := Option.some.inj hf
          rw [hQ]
          exact W.iret (v := x3) hx hb hr (fun t ht hW => ⟨⟨x3, sMo, rfl, ⟨pr1 e9, pr2 e9⟩, ⟨by rw [ht]; exact hP, va_K.moved hW.alike hK, hD⟩⟩, hS.F ht⟩) hS.2.2 dX11_lasts_67
        · have hf := it_f hf c13
          obtain ⟨v14, ev14⟩ : ∃ z : Int32, z = x3 + (1 : Int32) := ⟨_, rfl⟩
          have hf := lz_s hf v14 ev14
          refine lv_iinc (v := v14) (lv' := [(3, .int v14), (0, .ref (hMo 99)), (1, .int p1), (2, .int p2)]) hx hb dX11_lasts_60 hl (k := 3) rfl (by rw [ev14]; rfl) (by decide) rfl (fun ls hl => ?_)
          refine lv_goto (tgt := 40) hx hb dX11_lasts_63 (by decide) ?_
          exact ih v14 sMo H locs ls hf hP hD hS (lv_sub hl [1, 2, 3, 0] rfl)
  have hen : entryFrame m args 4 = entryFrame m (([.ref (hMo 99), .int p1, .int p2] : List Value).toArray) 4 := by rw [hargs]
  have hl := lv_entry ([.ref (hMo 99), .int p1, .int p2]) (n := 4) (Nat.le_of_ble_eq_true rfl)
  rw [hen, lg_entry_eq]
  generalize (lg_sl ([.ref (hMo 99), .int p1, .int p2]) ++ List.replicate (4 - (lg_sl ([.ref (hMo 99), .int p1, .int p2])).length) Slot.unset).toArray = ls at hl ⊢
  have hl : lv_has ls 4 [(0, .ref (hMo 99)), (1, .int p1), (2, .int p2)] := hl
  unfold f_X11_lasts at hf
  obtain ⟨H, hHe⟩ : ∃ z, z = s.heap := ⟨_, rfl⟩
  obtain ⟨locs, hLe⟩ : ∃ z : List Loc, z = [] := ⟨_, rfl⟩
  rw [← hLe]
  have hS : va_S A s.heap H locs := by rw [hHe, hLe]; exact hS
  have hP : va_P D vwCl (wMo K hMo sMo) H := by rw [hHe]; exact hP
  have hgo : W p l e (headSpec wz_X11_lasts r_X11_lasts).room s m args below meth c H locs 0 0 Q (F0 m 0 ls []) := by
    refine lv_aload_n hx hb dX11_lasts_0 rfl (lv_at hl 0 rfl) ?_
    obtain ⟨o1, go1, hf⟩ := bd_s hf
    refine rs_Vv (As := []) (rest := []) ⟨hx, hb, hml, hown, hts⟩ (c_X11_good l D K F hMo H.size sMo o1 go1) (cwV 0 hts (gcV_X11_good (mB18 _ (List.mem_of_getElem? (i := 7) rfl))) rfl rfl rfl hdV_X11_good ⟨Nat.le_of_ble_eq_true rfl, Nat.le_of_ble_eq_true rfl⟩) hK hP hD hS hA (va_recv hK hP (ci := 10) (q0 := 0) rfl o_Mo) rfl hl.1 rfl (Nat.le_of_ble_eq_true rfl) dX11_lasts_1 ⟨Nat.zero_le _, Nat.zero_le _⟩ (fun H locs hP hD hS => ?_)
    have hP : va_P D vwCl (wMo K hMo o1) H := hP
    have hD : va_D A (wMo K hMo o1) := hD
    refine lv_aload_n hx hb dX11_lasts_4 rfl (lv_at hl 0 rfl) ?_
    refine lv_iload_n hx hb dX11_lasts_5 rfl (lv_at hl 1 rfl) ?_
    obtain ⟨o2, go2, hf⟩ := bd_s hf
    refine ro_Vi (As := [.int p1]) (rest := []) ⟨hx, hb, hml, hown, hts⟩ (c_X11_isStation l D K F hMo o1 p1 o2 go2) (cwV 1 hts (gcV_X11_isStation (mB26 _ (List.mem_of_getElem? (i := 15) rfl))) rfl rfl rfl hdV_X11_isStation ⟨Nat.le_of_ble_eq_true rfl, Nat.le_of_ble_eq_true rfl⟩) hK hP hS hP (va_recv hK hP (ci := 10) (q0 := 0) rfl o_Mo) rfl hl.1 rfl (Nat.le_of_ble_eq_true rfl) dX11_lasts_6 ⟨Nat.zero_le _, Nat.zero_le _⟩ (fun H locs hP hS => ?_)
    refine lv_if_ne (tgt := 18) hx hb dX11_lasts_9 (by decide) (fun c3 => ?_) (fun c3 => ?_)
    · have hf := it_f hf c3
      refine lv_iload_n hx hb dX11_lasts_18 rfl (lv_at hl 2 rfl) ?_
      refine lv_iconst (v := (0 : Int32)) hx hb dX11_lasts_19 (by decide) ?_
      refine lv_aload_n hx hb dX11_lasts_20 rfl (lv_at hl 0 rfl) ?_
      refine va_get (D := D) (ci := 10) (v := .ref (hMo 15)) (C := RX11) (T := TX11) (N := 41) hx hb hts iX11 hown hK hP 0 o_Mo rfl 15 (by decide) (htl _ (mB6 _ (List.mem_of_getElem? (i := 3) rfl))) (fun _ h9 => h9) rfl dX11_lasts_21 ?_
      refine lv_iconst (v := (0 : Int32)) hx hb dX11_lasts_24 (by decide) ?_
      obtain ⟨g4, hf⟩ := gd_s hf
      refine va_iald hx hb hK hP 3 0 (f := o1.2.2.1 15) a_Mo_15 rfl (vpb_in g4) dX11_lasts_25 ?_
      refine lv_topi (fun v5 ev5 => ?_)
      have hf := lz_s hf v5 ev5
      obtain ⟨o6, go6, hf⟩ := bd_s hf
      refine ro_Si (As := [.int p2, .int (0 : Int32), .int v5]) (rest := []) ⟨hx, hb, hml, hown, hts⟩ (c_X11_in l D K F p2 (0 : Int32) v5 o6 go6) (va_cwS 3 hts (gcS_X11_in (mB18 _ (List.mem_of_getElem? (i := 12) rfl))) rfl rfl rfl hdS_X11_in ⟨Nat.le_of_ble_eq_true rfl, Nat.le_of_ble_eq_true rfl⟩) hK hP hS va_Pnil rfl hl.1 rfl (Nat.le_of_ble_eq_true rfl) dX11_lasts_26 ⟨Nat.zero_le _, Nat.zero_le _⟩ (fun H locs hP hS => ?_)
      refine lv_if_ne (tgt := 38) hx hb dX11_lasts_29 (by decide) (fun c7 => ?_) (fun c7 => ?_)
      · have hf := it_f hf c7
        refine lv_iload_n hx hb dX11_lasts_38 rfl (lv_at hl 1 rfl) ?_
        refine lv_istore_n (lv' := [(3, .int p1), (0, .ref (hMo 99)), (1, .int p1), (2, .int p2)]) hx hb dX11_lasts_39 rfl hl (by decide) rfl (fun ls hl => ?_)
        exact w40 F p1 o1 H locs ls hf hP hD hS (lv_sub hl [1, 2, 3, 0] rfl)
      · have hf := it_t hf c7
        refine lv_aload_n hx hb dX11_lasts_32 rfl (lv_at hl 0 rfl) ?_
        refine lv_iconst (v := (2 : Int32)) hx hb dX11_lasts_33 (by decide) ?_
        obtain ⟨o8, go8, hf⟩ := bd_s hf
        refine rs_Vi (As := [.int (2 : Int32)]) (rest := []) ⟨hx, hb, hml, hown, hts⟩ (c_X11_no l D K F hMo H.size o1 (2 : Int32) o8 go8) (cwV 1 hts (gcV_X11_no (mB18 _ (List.mem_of_getElem? (i := 15) rfl))) rfl rfl rfl hdV_X11_no ⟨Nat.le_of_ble_eq_true rfl, Nat.le_of_ble_eq_true rfl⟩) hK hP hD hS hA (va_recv hK hP (ci := 10) (q0 := 0) rfl o_Mo) rfl hl.1 rfl (Nat.le_of_ble_eq_true rfl) dX11_lasts_34 ⟨Nat.zero_le _, Nat.zero_le _⟩ (fun H locs hP hD hS => ?_)
        have hP : va_P D vwCl (wMo K hMo o8.2) H := hP
        have hD : va_D A (wMo K hMo o8.2) := hD
        have e9 := Option.some.inj hf
        rw [hQ]
        exact W.iret (v := o8.1) hx hb hr (fun t ht hW => ⟨⟨o8.1, o8.2, rfl, ⟨pr1 e9, pr2 e9⟩, ⟨by rw [ht]; exact hP, va_K.moved hW.alike hK, hD⟩⟩, hS.F ht⟩) hS.2.2 dX11_lasts_37
    · have hf := it_t hf c3
      refine lv_aload_n hx hb dX11_lasts_12 rfl (lv_at hl 0 rfl) ?_
      refine lv_iconst (v := (1 : Int32)) hx hb dX11_lasts_13 (by decide) ?_
      obtain ⟨o9, go9, hf⟩ := bd_s hf
      refine rs_Vi (As := [.int (1 : Int32)]) (rest := []) ⟨hx, hb, hml, hown, hts⟩ (c_X11_no l D K F hMo H.size o1 (1 : Int32) o9 go9) (cwV 1 hts (gcV_X11_no (mB18 _ (List.mem_of_getElem? (i := 15) rfl))) rfl rfl rfl hdV_X11_no ⟨Nat.le_of_ble_eq_true rfl, Nat.le_of_ble_eq_true rfl⟩) hK hP hD hS hA (va_recv hK hP (ci := 10) (q0 := 0) rfl o_Mo) rfl hl.1 rfl (Nat.le_of_ble_eq_true rfl) dX11_lasts_14 ⟨Nat.zero_le _, Nat.zero_le _⟩ (fun H locs hP hD hS => ?_)
      have hP : va_P D vwCl (wMo K hMo o9.2) H := hP
      have hD : va_D A (wMo K hMo o9.2) := hD
      have e9 := Option.some.inj hf
      rw [hQ]
      exact W.iret (v := o9.1) hx hb hr (fun t ht hW => ⟨⟨o9.1, o9.2, rfl, ⟨pr1 e9, pr2 e9⟩, ⟨by rw [ht]; exact hP, va_K.moved hW.alike hK, hD⟩⟩, hS.F ht⟩) hS.2.2 dX11_lasts_17
  rw [hHe] at hgo
  exact hgo

theorem gcV_X11_isStop {T0 : Cond} {own : String} {i : Nat} (h : Cond.methodLink own i yX11_isStop ∈ wsL_law) : GoodIn (T0 :: wsL_law) (wsV own i RX11 yX11_isStop wz_X11_isStop) := gV h (mB29 _ (List.mem_of_getElem? (i := 13) rfl)) (mB29 _ (List.mem_of_getElem? (i := 14) rfl)) (mB1 _ (List.mem_of_getElem? (i := 5) rfl)) (mB29 _ (List.mem_of_getElem? (i := 15) rfl))
theorem hdV_X11_isStop : yX11_isStop.cls = RX11 ∧ yX11_isStop.cls ≠ "java/lang/invoke/MethodHandle" ∧ yX11_isStop.cls ≠ "java/lang/invoke/VarHandle" ∧ (parseMethodDescriptor yX11_isStop.desc).map (fun d => d.parameters.length) = some 1 := by decide +kernel
theorem gcV_X11_isNot {T0 : Cond} {own : String} {i : Nat} (h : Cond.methodLink own i yX11_isNot ∈ wsL_law) : GoodIn (T0 :: wsL_law) (wsV own i RX11 yX11_isNot wz_X11_isNot) := gV h (mB29 _ (List.mem_of_getElem? (i := 17) rfl)) (mB29 _ (List.mem_of_getElem? (i := 18) rfl)) (mB1 _ (List.mem_of_getElem? (i := 5) rfl)) (mB29 _ (List.mem_of_getElem? (i := 19) rfl))
theorem hdV_X11_isNot : yX11_isNot.cls = RX11 ∧ yX11_isNot.cls ≠ "java/lang/invoke/MethodHandle" ∧ yX11_isNot.cls ≠ "java/lang/invoke/VarHandle" ∧ (parseMethodDescriptor yX11_isNot.desc).map (fun d => d.parameters.length) = some 1 := by decide +kernel
def wz_X11_plan : List Cond := .code yX11_plan cX11_plan 3 (some .boolean) :: wsL_law
abbrev r_X11_plan : Room := { frames := 3, cells := 0, slots := 0, locals := 64 }
set_option maxHeartbeats 4000000 in
set_option maxRecDepth 100000 in
theorem c_X11_plan (l : Launch) (D : va_G) (K : Nat → ClassId) (F : Nat) (hMo : Nat → Nat) (sz : Nat) (sMo : MS) (p1 : Int32) (p2 : Int32) (res : Int32 × MS) (hf : f_X11_plan F p1 p2 sMo = some res) : Met l yX11_plan wz_X11_plan r_X11_plan (va_Pc [.ref (hMo 99), .int p1, .int p2] (PW D K (wMo K hMo sMo) sz)) (va_Qi (fun r u => r = res.1 ∧ u = res.2) (fun u t => BW D K (va_A (wMo K hMo sMo) sz) (wMo K hMo u) t) (va_A (wMo K hMo sMo) sz)) 0 0 (va_A (wMo K hMo sMo) sz) := by
  refine Met.ofW (cc := cX11_plan) (maxL := 3) (ret := (some .boolean)) (by decide) rfl ?_
  intro p e s m args below meth c s₁ B hml hv
  obtain ⟨hargs, hsz, hP, hK, hD0⟩ := hv
  have hx := B.exec
  have hb := B.bytes
  have hr := B.returns
  have hts := atoms_spec (ws := wz_X11_plan) B.pre
  have htl : ∀ w ∈ wsL_law, w.before args s = true := fun w h => hts w (List.mem_cons_of_mem _ h)
  have hown : s.vm.findClass RX11 = some m.cls := findClass_of_methodNamed B.named
  have hlocks := B.notSynchronized
  subst hsz
  have hD := hD0.self (sz := s.heap.size)
  generalize hAe : va_A (wMo K hMo sMo) s.heap.size = A at hD ⊢
  have hA : ∀ q : Nat, s.heap.size ≤ q → A q := fun q h => by rw [← hAe]; exact Or.inr h
  have hS : va_S A s.heap s.heap [] := va_S.rf
  have iX11 : ∀ w ∈ wsX110, w ∈ wz_X11_plan := fun w h => List.mem_cons_of_mem _ (inlX11 w h)
  suffices hgo : ∀ Q : State → Prop, Q = MQ below (va_Qi (fun r u => r = res.1 ∧ u = res.2) (fun u t => BW D K A (wMo K hMo u) t) A) args s 0 0 A → W p l e (headSpec wz_X11_plan r_X11_plan).room s m args below meth c s.heap [] 0 0 Q (entryFrame m args 3) from hgo _ rfl
  intro Q hQ
  have hen : entryFrame m args 3 = entryFrame m (([.ref (hMo 99), .int p1, .int p2] : List Value).toArray) 3 := by rw [hargs]
  have hl := lv_entry ([.ref (hMo 99), .int p1, .int p2]) (n := 3) (Nat.le_of_ble_eq_true rfl)
  rw [hen, lg_entry_eq]
  generalize (lg_sl ([.ref (hMo 99), .int p1, .int p2]) ++ List.replicate (3 - (lg_sl ([.ref (hMo 99), .int p1, .int p2])).length) Slot.unset).toArray = ls at hl ⊢
  have hl : lv_has ls 3 [(0, .ref (hMo 99)), (1, .int p1), (2, .int p2)] := hl
  unfold f_X11_plan at hf
  obtain ⟨H, hHe⟩ : ∃ z, z = s.heap := ⟨_, rfl⟩
  obtain ⟨locs, hLe⟩ : ∃ z : List Loc, z = [] := ⟨_, rfl⟩
  rw [← hLe]
  have hS : va_S A s.heap H locs := by rw [hHe, hLe]; exact hS
  have hP : va_P D vwCl (wMo K hMo sMo) H := by rw [hHe]; exact hP
  have hgo : W p l e (headSpec wz_X11_plan r_X11_plan).room s m args below meth c H locs 0 0 Q (F0 m 0 ls []) := by
    refine lv_aload_n hx hb dX11_plan_0 rfl (lv_at hl 0 rfl) ?_
    obtain ⟨o1, go1, hf⟩ := bd_s hf
    refine rs_Vv (As := []) (rest := []) ⟨hx, hb, hml, hown, hts⟩ (c_X11_good l D K F hMo H.size sMo o1 go1) (cwV 0 hts (gcV_X11_good (mB18 _ (List.mem_of_getElem? (i := 7) rfl))) rfl rfl rfl hdV_X11_good ⟨Nat.le_of_ble_eq_true rfl, Nat.le_of_ble_eq_true rfl⟩) hK hP hD hS hA (va_recv hK hP (ci := 10) (q0 := 0) rfl o_Mo) rfl hl.1 rfl (Nat.le_of_ble_eq_true rfl) dX11_plan_1 ⟨Nat.zero_le _, Nat.zero_le _⟩ (fun H locs hP hD hS => ?_)
    have hP : va_P D vwCl (wMo K hMo o1) H := hP
    have hD : va_D A (wMo K hMo o1) := hD
    refine lv_aload_n hx hb dX11_plan_4 rfl (lv_at hl 0 rfl) ?_
    refine lv_iload_n hx hb dX11_plan_5 rfl (lv_at hl 1 rfl) ?_
    obtain ⟨o2, go2, hf⟩ := bd_s hf
    refine ro_Vi (As := [.int p1]) (rest := []) ⟨hx, hb, hml, hown, hts⟩ (c_X11_isStop l D K F hMo o1 p1 o2 go2) (cwV 1 hts (gcV_X11_isStop (mB29 _ (List.mem_of_getElem? (i := 12) rfl))) rfl rfl rfl hdV_X11_isStop ⟨Nat.le_of_ble_eq_true rfl, Nat.le_of_ble_eq_true rfl⟩) hK hP hS hP (va_recv hK hP (ci := 10) (q0 := 0) rfl o_Mo) rfl hl.1 rfl (Nat.le_of_ble_eq_true rfl) dX11_plan_6 ⟨Nat.zero_le _, Nat.zero_le _⟩ (fun H locs hP hS => ?_)
    refine lv_if_ne (tgt := 18) hx hb dX11_plan_9 (by decide) (fun c3 => ?_) (fun c3 => ?_)
    · have hf := it_f hf c3
      refine lv_iload_n hx hb dX11_plan_18 rfl (lv_at hl 2 rfl) ?_
      refine lv_iconst (v := (0 : Int32)) hx hb dX11_plan_19 (by decide) ?_
      refine lv_aload_n hx hb dX11_plan_20 rfl (lv_at hl 0 rfl) ?_
      refine va_get (D := D) (ci := 10) (v := .ref (hMo 15)) (C := RX11) (T := TX11) (N := 41) hx hb hts iX11 hown hK hP 0 o_Mo rfl 15 (by decide) (htl _ (mB6 _ (List.mem_of_getElem? (i := 3) rfl))) (fun _ h9 => h9) rfl dX11_plan_21 ?_
      refine lv_iconst (v := (0 : Int32)) hx hb dX11_plan_24 (by decide) ?_
      obtain ⟨g4, hf⟩ := gd_s hf
      refine va_iald hx hb hK hP 3 0 (f := o1.2.2.1 15) a_Mo_15 rfl (vpb_in g4) dX11_plan_25 ?_
      refine lv_topi (fun v5 ev5 => ?_)
      have hf := lz_s hf v5 ev5
      obtain ⟨o6, go6, hf⟩ := bd_s hf
      refine ro_Si (As := [.int p2, .int (0 : Int32), .int v5]) (rest := []) ⟨hx, hb, hml, hown, hts⟩ (c_X11_in l D K F p2 (0 : Int32) v5 o6 go6) (va_cwS 3 hts (gcS_X11_in (mB18 _ (List.mem_of_getElem? (i := 12) rfl))) rfl rfl rfl hdS_X11_in ⟨Nat.le_of_ble_eq_true rfl, Nat.le_of_ble_eq_true rfl⟩) hK hP hS va_Pnil rfl hl.1 rfl (Nat.le_of_ble_eq_true rfl) dX11_plan_26 ⟨Nat.zero_le _, Nat.zero_le _⟩ (fun H locs hP hS => ?_)
      refine lv_if_ne (tgt := 38) hx hb dX11_plan_29 (by decide) (fun c7 => ?_) (fun c7 => ?_)
      · have hf := it_f hf c7
        refine lv_aload_n hx hb dX11_plan_38 rfl (lv_at hl 0 rfl) ?_
        refine va_get (D := D) (ci := 10) (v := .ref (hMo 17)) (C := RX11) (T := TX11) (N := 41) hx hb hts iX11 hown hK hP 0 o_Mo rfl 17 (by decide) (htl _ (mB6 _ (List.mem_of_getElem? (i := 5) rfl))) (fun _ h9 => h9) rfl dX11_plan_39 ?_
        refine lv_iload_n hx hb dX11_plan_42 rfl (lv_at hl 1 rfl) ?_
        refine lv_iload_n hx hb dX11_plan_43 rfl (lv_at hl 2 rfl) ?_
        obtain ⟨g8, hf⟩ := gd_s hf
        refine va_iast hx hb hK hP hD hS 5 0 (f := o1.2.2.1 17) a_Mo_17 rfl (vpb_in g8) dX11_plan_44 (fun H locs hP hD hS => ?_)
        have hP := cvP sa_Mo_17 hP
        have hD := cvD sa_Mo_17 hD
        obtain ⟨s9, es9⟩ : ∃ z, z = sA o1 17 p1.toNatClampNeg p2 := ⟨_, rfl⟩
        have hP : va_P D vwCl (wMo K hMo s9) H := by rw [es9]; exact hP
        have hD : va_D A (wMo K hMo s9) := by rw [es9]; exact hD
        have hf := lz_s hf s9 es9
        refine lv_iconst (v := (1 : Int32)) hx hb dX11_plan_45 (by decide) ?_
        have e9 := Option.some.inj hf
        rw [hQ]
        exact W.zret (v := (1 : Int32)) hx hb hr rfl (fun t ht hW => ⟨⟨(1 : Int32), s9, rfl, ⟨pr1 e9, pr2 e9⟩, ⟨by rw [ht]; exact hP, va_K.moved hW.alike hK, hD⟩⟩, hS.F ht⟩) hS.2.2 dX11_plan_46
      · have hf := it_t hf c7
        refine lv_aload_n hx hb dX11_plan_32 rfl (lv_at hl 0 rfl) ?_
        refine lv_iconst (v := (2 : Int32)) hx hb dX11_plan_33 (by decide) ?_
        obtain ⟨o10, go10, hf⟩ := bd_s hf
        refine rs_Vi (As := [.int (2 : Int32)]) (rest := []) ⟨hx, hb, hml, hown, hts⟩ (c_X11_isNot l D K F hMo H.size o1 (2 : Int32) o10 go10) (cwV 1 hts (gcV_X11_isNot (mB29 _ (List.mem_of_getElem? (i := 16) rfl))) rfl rfl rfl hdV_X11_isNot ⟨Nat.le_of_ble_eq_true rfl, Nat.le_of_ble_eq_true rfl⟩) hK hP hD hS hA (va_recv hK hP (ci := 10) (q0 := 0) rfl o_Mo) rfl hl.1 rfl (Nat.le_of_ble_eq_true rfl) dX11_plan_34 ⟨Nat.zero_le _, Nat.zero_le _⟩ (fun H locs hP hD hS => ?_)
        have hP : va_P D vwCl (wMo K hMo o10.2) H := hP
        have hD : va_D A (wMo K hMo o10.2) := hD
        obtain ⟨g11, hf⟩ := gd_s hf
        have e9 := Option.some.inj hf
        rw [hQ]
        exact W.zret (v := o10.1) hx hb hr (bob_s g11) (fun t ht hW => ⟨⟨o10.1, o10.2, rfl, ⟨pr1 e9, pr2 e9⟩, ⟨by rw [ht]; exact hP, va_K.moved hW.alike hK, hD⟩⟩, hS.F ht⟩) hS.2.2 dX11_plan_37
    · have hf := it_t hf c3
      refine lv_aload_n hx hb dX11_plan_12 rfl (lv_at hl 0 rfl) ?_
      refine lv_iconst (v := (1 : Int32)) hx hb dX11_plan_13 (by decide) ?_
      obtain ⟨o12, go12, hf⟩ := bd_s hf
      refine rs_Vi (As := [.int (1 : Int32)]) (rest := []) ⟨hx, hb, hml, hown, hts⟩ (c_X11_isNot l D K F hMo H.size o1 (1 : Int32) o12 go12) (cwV 1 hts (gcV_X11_isNot (mB29 _ (List.mem_of_getElem? (i := 16) rfl))) rfl rfl rfl hdV_X11_isNot ⟨Nat.le_of_ble_eq_true rfl, Nat.le_of_ble_eq_true rfl⟩) hK hP hD hS hA (va_recv hK hP (ci := 10) (q0 := 0) rfl o_Mo) rfl hl.1 rfl (Nat.le_of_ble_eq_true rfl) dX11_plan_14 ⟨Nat.zero_le _, Nat.zero_le _⟩ (fun H locs hP hD hS => ?_)
      have hP : va_P D vwCl (wMo K hMo o12.2) H := hP
      have hD : va_D A (wMo K hMo o12.2) := hD
      obtain ⟨g13, hf⟩ := gd_s hf
      have e9 := Option.some.inj hf
      rw [hQ]
      exact W.zret (v := o12.1) hx hb hr (bob_s g13) (fun t ht hW => ⟨⟨o12.1, o12.2, rfl, ⟨pr1 e9, pr2 e9⟩, ⟨by rw [ht]; exact hP, va_K.moved hW.alike hK, hD⟩⟩, hS.F ht⟩) hS.2.2 dX11_plan_17
  rw [hHe] at hgo
  exact hgo

theorem gcV_X11_priceAt {T0 : Cond} {own : String} {i : Nat} (h : Cond.methodLink own i yX11_priceAt ∈ wsL_law) : GoodIn (T0 :: wsL_law) (wsV own i RX11 yX11_priceAt wz_X11_priceAt) := gV h (mB31 _ (List.mem_of_getElem? (i := 1) rfl)) (mB31 _ (List.mem_of_getElem? (i := 2) rfl)) (mB1 _ (List.mem_of_getElem? (i := 5) rfl)) (mB31 _ (List.mem_of_getElem? (i := 3) rfl))
theorem hdV_X11_priceAt : yX11_priceAt.cls = RX11 ∧ yX11_priceAt.cls ≠ "java/lang/invoke/MethodHandle" ∧ yX11_priceAt.cls ≠ "java/lang/invoke/VarHandle" ∧ (parseMethodDescriptor yX11_priceAt.desc).map (fun d => d.parameters.length) = some 1 := by decide +kernel
def wz_X11_judged : List Cond := .code yX11_judged cX11_judged 3 (some .int) :: wsL_law
abbrev r_X11_judged : Room := { frames := 2, cells := 0, slots := 0, locals := 43 }
set_option maxHeartbeats 4000000 in
set_option maxRecDepth 100000 in
theorem c_X11_judged (l : Launch) (D : va_G) (K : Nat → ClassId) (F : Nat) (hMo : Nat → Nat) (sMo : MS) (res : Int32) (hf : f_X11_judged F sMo = some res) : Met l yX11_judged wz_X11_judged r_X11_judged (va_Pc [.ref (hMo 99)] (PR D K (wMo K hMo sMo))) (va_Qi (fun r (_ : Unit) => r = res) BN nOne) 0 0 nOne := by
  refine Met.ofW (cc := cX11_judged) (maxL := 3) (ret := (some .int)) (by decide) rfl ?_
  intro p e s m args below meth c s₁ B hml hv
  obtain ⟨hargs, hP, hK⟩ := hv
  have hx := B.exec
  have hb := B.bytes
  have hr := B.returns
  have hts := atoms_spec (ws := wz_X11_judged) B.pre
  have htl : ∀ w ∈ wsL_law, w.before args s = true := fun w h => hts w (List.mem_cons_of_mem _ h)
  have hown : s.vm.findClass RX11 = some m.cls := findClass_of_methodNamed B.named
  have hlocks := B.notSynchronized
  have hS : va_S nOne s.heap s.heap [] := va_S.rf
  have iX11 : ∀ w ∈ wsX110, w ∈ wz_X11_judged := fun w h => List.mem_cons_of_mem _ (inlX11 w h)
  suffices hgo : ∀ Q : State → Prop, Q = MQ below (va_Qi (fun r (_ : Unit) => r = res) BN nOne) args s 0 0 nOne → W p l e (headSpec wz_X11_judged r_X11_judged).room s m args below meth c s.heap [] 0 0 Q (entryFrame m args 3) from hgo _ rfl
  intro Q hQ
  have w34 : ∀ (k9 : Int32 → Int32 → Option Int32), (∀ (x1 : Int32), ∀ (x2 : Int32), ∀ (H : Heap) (locs : List Loc) (ls : Array Slot), k9 x1 x2 = some res → va_P D vwCl (wMo K hMo sMo) H → va_S nOne s.heap H locs → lv_has ls 3 [(0, .ref (hMo 99)), (1, .int x1), (2, .int x2)] → W p l e (headSpec wz_X11_judged r_X11_judged).room s m args below meth c H locs 0 0 Q (F0 m 9 ls [])) → ∀ (x1 : Int32), ∀ (x2 : Int32), ∀ (H : Heap) (locs : List Loc) (ls : Array Slot), f_X11_judged_34 F sMo k9 x1 x2 = some res → va_P D vwCl (wMo K hMo sMo) H → va_S nOne s.heap H locs → lv_has ls 3 [(0, .ref (hMo 99)), (1, .int x1), (2, .int x2)] → W p l e (headSpec wz_X11_judged r_X11_judged).room s m args below meth c H locs 0 0 Q (F0 m 34 ls []) := by
    intro k9 hk9 x1 x2 H locs ls hf hP hS hl
    unfold f_X11_judged_34 at hf
    refine lv_iload_n hx hb dX11_judged_34 rfl (lv_at hl 1 rfl) ?_
    refine lv_aload_n hx hb dX11_judged_35 rfl (lv_at hl 0 rfl) ?_
    refine va_get (D := D) (ci := 10) (v := .ref (hMo 17)) (C := RX11) (T := TX11) (N := 41) hx hb hts iX11 hown hK hP 0 o_Mo rfl 17 (by decide) (htl _ (mB6 _ (List.mem_of_getElem? (i := 5) rfl))) (fun _ h9 => h9) rfl dX11_judged_36 ?_
    refine lv_iload_n hx hb dX11_judged_39 rfl (lv_at hl 2 rfl) ?_
    obtain ⟨g10, hf⟩ := gd_s hf
    refine va_iald hx hb hK hP 5 0 (f := sMo.2.2.1 17) a_Mo_17 rfl (vpb_in g10) dX11_judged_40 ?_
    refine lv_topi (fun v11 ev11 => ?_)
    have hf := lz_s hf v11 ev11
    refine lv_iadd hx hb dX11_judged_41 ?_
    refine lv_aload_n hx hb dX11_judged_42 rfl (lv_at hl 0 rfl) ?_
    refine va_get (D := D) (ci := 10) (v := .ref (hMo 15)) (C := RX11) (T := TX11) (N := 41) hx hb hts iX11 hown hK hP 0 o_Mo rfl 15 (by decide) (htl _ (mB6 _ (List.mem_of_getElem? (i := 3) rfl))) (fun _ h9 => h9) rfl dX11_judged_43 ?_
    refine lv_iconst (v := (0 : Int32)) hx hb dX11_judged_46 (by decide) ?_
    obtain ⟨g12, hf⟩ := gd_s hf
    refine va_iald hx hb hK hP 3 0 (f := sMo.2.2.1 15) a_Mo_15 rfl (vpb_in g12) dX11_judged_47 ?_
    refine lv_topi (fun v13 ev13 => ?_)
    have hf := lz_s hf v13 ev13
    refine lv_icmp_le (tgt := 53) hx hb dX11_judged_48 (by decide) (fun c14 => ?_) (fun c14 => ?_)
    · have hf := it_t hf c14
      refine lv_iload_n hx hb dX11_judged_53 rfl (lv_at hl 1 rfl) ?_
      refine lv_aload_n hx hb dX11_judged_54 rfl (lv_at hl 0 rfl) ?_
      refine va_get (D := D) (ci := 10) (v := .ref (hMo 17)) (C := RX11) (T := TX11) (N := 41) hx hb hts iX11 hown hK hP 0 o_Mo rfl 17 (by decide) (htl _ (mB6 _ (List.mem_of_getElem? (i := 5) rfl))) (fun _ h9 => h9) rfl dX11_judged_55 ?_
      refine lv_iload_n hx hb dX11_judged_58 rfl (lv_at hl 2 rfl) ?_
      obtain ⟨g15, hf⟩ := gd_s hf
      refine va_iald hx hb hK hP 5 0 (f := sMo.2.2.1 17) a_Mo_17 rfl (vpb_in g15) dX11_judged_59 ?_
      refine lv_topi (fun v16 ev16 => ?_)
      have hf := lz_s hf v16 ev16
      refine lv_aload_n hx hb dX11_judged_60 rfl (lv_at hl 0 rfl) ?_
      refine lv_iload_n hx hb dX11_judged_61 rfl (lv_at hl 2 rfl) ?_
      obtain ⟨o17, go17, hf⟩ := bd_s hf
      refine ro_Vi (As := [.int x2]) (rest := [.int v16, .int x1]) ⟨hx, hb, hml, hown, hts⟩ (c_X11_leg l D K F hMo sMo x2 o17 go17) (cwV 1 hts (gcV_X11_leg (mB27 _ (List.mem_of_getElem? (i := 15) rfl))) rfl rfl rfl hdV_X11_leg ⟨Nat.le_of_ble_eq_true rfl, Nat.le_of_ble_eq_true rfl⟩) hK hP hS hP (va_recv hK hP (ci := 10) (q0 := 0) rfl o_Mo) rfl hl.1 rfl (Nat.le_of_ble_eq_true rfl) dX11_judged_62 ⟨Nat.zero_le _, Nat.zero_le _⟩ (fun H locs hP hS => ?_)
      refine lv_isub hx hb dX11_judged_65 ?_
      refine lv_iadd hx hb dX11_judged_66 ?_
      refine lv_istore_n (lv' := [(1, .int (x1 + (v16 - o17))), (0, .ref (hMo 99)), (2, .int x2)]) hx hb dX11_judged_67 rfl hl (by decide) rfl (fun ls hl => ?_)
      refine lv_iload_n hx hb dX11_judged_68 rfl (lv_at hl 0 rfl) ?_
      refine lv_if_ge (tgt := 74) hx hb dX11_judged_69 (by decide) (fun c18 => ?_) (fun c18 => ?_)
      · have hf := it_t hf c18
        obtain ⟨v19, ev19⟩ : ∃ z : Int32, z = x2 + (1 : Int32) := ⟨_, rfl⟩
        have hf := lz_s hf v19 ev19
        refine lv_iinc (v := v19) (lv' := [(2, .int v19), (1, .int (x1 + (v16 - o17))), (0, .ref (hMo 99))]) hx hb dX11_judged_74 hl (k := 2) rfl (by rw [ev19]; rfl) (by decide) rfl (fun ls hl => ?_)
        refine lv_goto (tgt := 9) hx hb dX11_judged_77 (by decide) ?_
        exact hk9 (x1 + (v16 - o17)) v19 H locs ls hf hP hS (lv_sub hl [2, 1, 0] rfl)
      · have hf := it_f hf c18
        refine lv_iload_n hx hb dX11_judged_72 rfl (lv_at hl 2 rfl) ?_
        have e9 := Option.some.inj hf
        rw [hQ]
        exact W.iret (v := x2) hx hb hr (fun t ht hW => ⟨⟨x2, (), rfl, e9, trivial⟩, hS.F ht⟩) hS.2.2 dX11_judged_73
    · have hf := it_f hf c14
      refine lv_iload_n hx hb dX11_judged_51 rfl (lv_at hl 2 rfl) ?_
      have e9 := Option.some.inj hf
      rw [hQ]
      exact W.iret (v := x2) hx hb hr (fun t ht hW => ⟨⟨x2, (), rfl, e9, trivial⟩, hS.F ht⟩) hS.2.2 dX11_judged_52
  have w9 : ∀ (n : Nat), ∀ (x1 : Int32), ∀ (x2 : Int32), ∀ (H : Heap) (locs : List Loc) (ls : Array Slot), f_X11_judged_9 F sMo n x1 x2 = some res → va_P D vwCl (wMo K hMo sMo) H → va_S nOne s.heap H locs → lv_has ls 3 [(0, .ref (hMo 99)), (1, .int x1), (2, .int x2)] → W p l e (headSpec wz_X11_judged r_X11_judged).room s m args below meth c H locs 0 0 Q (F0 m 9 ls []) := by
    intro n
    induction n with
    | zero =>
      intro x1 x2 H locs ls hf
      exact absurd (show none = some res from hf) (fun h => nomatch h)
    | succ n ih =>
      intro x1 x2 H locs ls hf hP hS hl
      rw [f_X11_judged_9] at hf
      refine lv_iload_n hx hb dX11_judged_9 rfl (lv_at hl 2 rfl) ?_
      refine lv_aload_n hx hb dX11_judged_10 rfl (lv_at hl 0 rfl) ?_
      obtain ⟨o3, go3, hf⟩ := bd_s hf
      refine ro_Vi (As := []) (rest := [.int x2]) ⟨hx, hb, hml, hown, hts⟩ (c_X11_lastStation l D K F hMo sMo o3 go3) (cwV 0 hts (gcV_X11_lastStation (mB28 _ (List.mem_of_getElem? (i := 11) rfl))) rfl rfl rfl hdV_X11_lastStation ⟨Nat.le_of_ble_eq_true rfl, Nat.le_of_ble_eq_true rfl⟩) hK hP hS hP (va_recv hK hP (ci := 10) (q0 := 0) rfl o_Mo) rfl hl.1 rfl (Nat.le_of_ble_eq_true rfl) dX11_judged_11 ⟨Nat.zero_le _, Nat.zero_le _⟩ (fun H locs hP hS => ?_)
      refine lv_icmp_ge (tgt := 80) hx hb dX11_judged_14 (by decide) (fun c4 => ?_) (fun c4 => ?_)
      · have hf := it_t hf c4
        refine lv_bipush (v := (-2 : Int32)) hx hb dX11_judged_80 (by decide) ?_
        have e9 := Option.some.inj hf
        rw [hQ]
        exact W.iret (v := (-2 : Int32)) hx hb hr (fun t ht hW => ⟨⟨(-2 : Int32), (), rfl, e9, trivial⟩, hS.F ht⟩) hS.2.2 dX11_judged_82
      · have hf := it_f hf c4
        refine lv_aload_n hx hb dX11_judged_17 rfl (lv_at hl 0 rfl) ?_
        refine va_get (D := D) (ci := 10) (v := .ref (hMo 17)) (C := RX11) (T := TX11) (N := 41) hx hb hts iX11 hown hK hP 0 o_Mo rfl 17 (by decide) (htl _ (mB6 _ (List.mem_of_getElem? (i := 5) rfl))) (fun _ h9 => h9) rfl dX11_judged_18 ?_
        refine lv_iload_n hx hb dX11_judged_21 rfl (lv_at hl 2 rfl) ?_
        obtain ⟨g5, hf⟩ := gd_s hf
        refine va_iald hx hb hK hP 5 0 (f := sMo.2.2.1 17) a_Mo_17 rfl (vpb_in g5) dX11_judged_22 ?_
        refine lv_topi (fun v6 ev6 => ?_)
        have hf := lz_s hf v6 ev6
        refine lv_if_le (tgt := 34) hx hb dX11_judged_23 (by decide) (fun c7 => ?_) (fun c7 => ?_)
        · have hf := it_t hf c7
          exact w34 (f_X11_judged_9 F sMo n) ih x1 x2 H locs ls hf hP hS (lv_sub hl [0, 1, 2] rfl)
        · have hf := it_f hf c7
          refine lv_aload_n hx hb dX11_judged_26 rfl (lv_at hl 0 rfl) ?_
          refine lv_iload_n hx hb dX11_judged_27 rfl (lv_at hl 2 rfl) ?_
          obtain ⟨o8, go8, hf⟩ := bd_s hf
          refine ro_Vi (As := [.int x2]) (rest := []) ⟨hx, hb, hml, hown, hts⟩ (c_X11_priceAt l D K F hMo sMo x2 o8 go8) (cwV 1 hts (gcV_X11_priceAt (mB31 _ (List.mem_of_getElem? (i := 0) rfl))) rfl rfl rfl hdV_X11_priceAt ⟨Nat.le_of_ble_eq_true rfl, Nat.le_of_ble_eq_true rfl⟩) hK hP hS hP (va_recv hK hP (ci := 10) (q0 := 0) rfl o_Mo) rfl hl.1 rfl (Nat.le_of_ble_eq_true rfl) dX11_judged_28 ⟨Nat.zero_le _, Nat.zero_le _⟩ (fun H locs hP hS => ?_)
          refine lv_if_eq (tgt := 51) hx hb dX11_judged_31 (by decide) (fun c9 => ?_) (fun c9 => ?_)
          · have hf := it_t hf c9
            refine lv_iload_n hx hb dX11_judged_51 rfl (lv_at hl 2 rfl) ?_
            have e9 := Option.some.inj hf
            rw [hQ]
            exact W.iret (v := x2) hx hb hr (fun t ht hW => ⟨⟨x2, (), rfl, e9, trivial⟩, hS.F ht⟩) hS.2.2 dX11_judged_52
          · have hf := it_f hf c9
            exact w34 (f_X11_judged_9 F sMo n) ih x1 x2 H locs ls hf hP hS (lv_sub hl [0, 1, 2] rfl)
  have hen : entryFrame m args 3 = entryFrame m (([.ref (hMo 99)] : List Value).toArray) 3 := by rw [hargs]
  have hl := lv_entry ([.ref (hMo 99)]) (n := 3) (Nat.le_of_ble_eq_true rfl)
  rw [hen, lg_entry_eq]
  generalize (lg_sl ([.ref (hMo 99)]) ++ List.replicate (3 - (lg_sl ([.ref (hMo 99)])).length) Slot.unset).toArray = ls at hl ⊢
  have hl : lv_has ls 3 [(0, .ref (hMo 99))] := hl
  unfold f_X11_judged at hf
  obtain ⟨H, hHe⟩ : ∃ z, z = s.heap := ⟨_, rfl⟩
  obtain ⟨locs, hLe⟩ : ∃ z : List Loc, z = [] := ⟨_, rfl⟩
  rw [← hLe]
  have hS : va_S nOne s.heap H locs := by rw [hHe, hLe]; exact hS
  have hP : va_P D vwCl (wMo K hMo sMo) H := by rw [hHe]; exact hP
  have hgo : W p l e (headSpec wz_X11_judged r_X11_judged).room s m args below meth c H locs 0 0 Q (F0 m 0 ls []) := by
    refine lv_aload_n hx hb dX11_judged_0 rfl (lv_at hl 0 rfl) ?_
    refine va_get (D := D) (ci := 10) (v := .ref (hMo 15)) (C := RX11) (T := TX11) (N := 41) hx hb hts iX11 hown hK hP 0 o_Mo rfl 15 (by decide) (htl _ (mB6 _ (List.mem_of_getElem? (i := 3) rfl))) (fun _ h9 => h9) rfl dX11_judged_1 ?_
    refine lv_iconst (v := (1 : Int32)) hx hb dX11_judged_4 (by decide) ?_
    obtain ⟨g1, hf⟩ := gd_s hf
    refine va_iald hx hb hK hP 3 0 (f := sMo.2.2.1 15) a_Mo_15 rfl (vpb_in g1) dX11_judged_5 ?_
    refine lv_topi (fun v2 ev2 => ?_)
    have hf := lz_s hf v2 ev2
    refine lv_istore_n (lv' := [(1, .int v2), (0, .ref (hMo 99))]) hx hb dX11_judged_6 rfl hl (by decide) rfl (fun ls hl => ?_)
    refine lv_iconst (v := (0 : Int32)) hx hb dX11_judged_7 (by decide) ?_
    refine lv_istore_n (lv' := [(2, .int (0 : Int32)), (1, .int v2), (0, .ref (hMo 99))]) hx hb dX11_judged_8 rfl hl (by decide) rfl (fun ls hl => ?_)
    exact w9 F v2 (0 : Int32) H locs ls hf hP hS (lv_sub hl [2, 1, 0] rfl)
  rw [hHe] at hgo
  exact hgo

theorem gcV_X11_judged {T0 : Cond} {own : String} {i : Nat} (h : Cond.methodLink own i yX11_judged ∈ wsL_law) : GoodIn (T0 :: wsL_law) (wsV own i RX11 yX11_judged wz_X11_judged) := gV h (mB30 _ (List.mem_of_getElem? (i := 21) rfl)) (mB30 _ (List.mem_of_getElem? (i := 22) rfl)) (mB1 _ (List.mem_of_getElem? (i := 5) rfl)) (mB30 _ (List.mem_of_getElem? (i := 23) rfl))
theorem hdV_X11_judged : yX11_judged.cls = RX11 ∧ yX11_judged.cls ≠ "java/lang/invoke/MethodHandle" ∧ yX11_judged.cls ≠ "java/lang/invoke/VarHandle" ∧ (parseMethodDescriptor yX11_judged.desc).map (fun d => d.parameters.length) = some 0 := by decide +kernel
def wz_X11_judge : List Cond := .code yX11_judge cX11_judge 1 (some .int) :: wsL_law
abbrev r_X11_judge : Room := { frames := 3, cells := 0, slots := 0, locals := 65 }
set_option maxHeartbeats 4000000 in
set_option maxRecDepth 100000 in
theorem c_X11_judge (l : Launch) (D : va_G) (K : Nat → ClassId) (F : Nat) (hMo : Nat → Nat) (sz : Nat) (sMo : MS) (res : Int32 × MS) (hf : f_X11_judge F sMo = some res) : Met l yX11_judge wz_X11_judge r_X11_judge (va_Pc [.ref (hMo 99)] (PW D K (wMo K hMo sMo) sz)) (va_Qi (fun r u => r = res.1 ∧ u = res.2) (fun u t => BW D K (va_A (wMo K hMo sMo) sz) (wMo K hMo u) t) (va_A (wMo K hMo sMo) sz)) 0 0 (va_A (wMo K hMo sMo) sz) := by
  refine Met.ofW (cc := cX11_judge) (maxL := 1) (ret := (some .int)) (by decide) rfl ?_
  intro p e s m args below meth c s₁ B hml hv
  obtain ⟨hargs, hsz, hP, hK, hD0⟩ := hv
  have hx := B.exec
  have hb := B.bytes
  have hr := B.returns
  have hts := atoms_spec (ws := wz_X11_judge) B.pre
  have htl : ∀ w ∈ wsL_law, w.before args s = true := fun w h => hts w (List.mem_cons_of_mem _ h)
  have hown : s.vm.findClass RX11 = some m.cls := findClass_of_methodNamed B.named
  have hlocks := B.notSynchronized
  subst hsz
  have hD := hD0.self (sz := s.heap.size)
  generalize hAe : va_A (wMo K hMo sMo) s.heap.size = A at hD ⊢
  have hA : ∀ q : Nat, s.heap.size ≤ q → A q := fun q h => by rw [← hAe]; exact Or.inr h
  have hS : va_S A s.heap s.heap [] := va_S.rf
  have iX11 : ∀ w ∈ wsX110, w ∈ wz_X11_judge := fun w h => List.mem_cons_of_mem _ (inlX11 w h)
  suffices hgo : ∀ Q : State → Prop, Q = MQ below (va_Qi (fun r u => r = res.1 ∧ u = res.2) (fun u t => BW D K A (wMo K hMo u) t) A) args s 0 0 A → W p l e (headSpec wz_X11_judge r_X11_judge).room s m args below meth c s.heap [] 0 0 Q (entryFrame m args 1) from hgo _ rfl
  intro Q hQ
  have hen : entryFrame m args 1 = entryFrame m (([.ref (hMo 99)] : List Value).toArray) 1 := by rw [hargs]
  have hl := lv_entry ([.ref (hMo 99)]) (n := 1) (Nat.le_of_ble_eq_true rfl)
  rw [hen, lg_entry_eq]
  generalize (lg_sl ([.ref (hMo 99)]) ++ List.replicate (1 - (lg_sl ([.ref (hMo 99)])).length) Slot.unset).toArray = ls at hl ⊢
  have hl : lv_has ls 1 [(0, .ref (hMo 99))] := hl
  unfold f_X11_judge at hf
  obtain ⟨H, hHe⟩ : ∃ z, z = s.heap := ⟨_, rfl⟩
  obtain ⟨locs, hLe⟩ : ∃ z : List Loc, z = [] := ⟨_, rfl⟩
  rw [← hLe]
  have hS : va_S A s.heap H locs := by rw [hHe, hLe]; exact hS
  have hP : va_P D vwCl (wMo K hMo sMo) H := by rw [hHe]; exact hP
  have hgo : W p l e (headSpec wz_X11_judge r_X11_judge).room s m args below meth c H locs 0 0 Q (F0 m 0 ls []) := by
    refine lv_aload_n hx hb dX11_judge_0 rfl (lv_at hl 0 rfl) ?_
    obtain ⟨o1, go1, hf⟩ := bd_s hf
    refine rs_Vv (As := []) (rest := []) ⟨hx, hb, hml, hown, hts⟩ (c_X11_good l D K F hMo H.size sMo o1 go1) (cwV 0 hts (gcV_X11_good (mB18 _ (List.mem_of_getElem? (i := 7) rfl))) rfl rfl rfl hdV_X11_good ⟨Nat.le_of_ble_eq_true rfl, Nat.le_of_ble_eq_true rfl⟩) hK hP hD hS hA (va_recv hK hP (ci := 10) (q0 := 0) rfl o_Mo) rfl hl.1 rfl (Nat.le_of_ble_eq_true rfl) dX11_judge_1 ⟨Nat.zero_le _, Nat.zero_le _⟩ (fun H locs hP hD hS => ?_)
    have hP : va_P D vwCl (wMo K hMo o1) H := hP
    have hD : va_D A (wMo K hMo o1) := hD
    refine lv_aload_n hx hb dX11_judge_4 rfl (lv_at hl 0 rfl) ?_
    refine va_get (D := D) (ci := 10) (v := .int (o1.1 14)) (C := RX11) (T := TX11) (N := 41) hx hb hts iX11 hown hK hP 0 o_Mo rfl 14 (by decide) (htl _ (mB18 _ (List.mem_of_getElem? (i := 4) rfl))) (fun _ h9 => h9) rfl dX11_judge_5 ?_
    refine lv_if_eq (tgt := 18) hx hb dX11_judge_8 (by decide) (fun c2 => ?_) (fun c2 => ?_)
    · have hf := it_t hf c2
      refine lv_aload_n hx hb dX11_judge_18 rfl (lv_at hl 0 rfl) ?_
      refine lv_iconst (v := (1 : Int32)) hx hb dX11_judge_19 (by decide) ?_
      obtain ⟨o3, go3, hf⟩ := bd_s hf
      refine rs_Vi (As := [.int (1 : Int32)]) (rest := []) ⟨hx, hb, hml, hown, hts⟩ (c_X11_no l D K F hMo H.size o1 (1 : Int32) o3 go3) (cwV 1 hts (gcV_X11_no (mB18 _ (List.mem_of_getElem? (i := 15) rfl))) rfl rfl rfl hdV_X11_no ⟨Nat.le_of_ble_eq_true rfl, Nat.le_of_ble_eq_true rfl⟩) hK hP hD hS hA (va_recv hK hP (ci := 10) (q0 := 0) rfl o_Mo) rfl hl.1 rfl (Nat.le_of_ble_eq_true rfl) dX11_judge_20 ⟨Nat.zero_le _, Nat.zero_le _⟩ (fun H locs hP hD hS => ?_)
      have hP : va_P D vwCl (wMo K hMo o3.2) H := hP
      have hD : va_D A (wMo K hMo o3.2) := hD
      have e9 := Option.some.inj hf
      rw [hQ]
      exact W.iret (v := o3.1) hx hb hr (fun t ht hW => ⟨⟨o3.1, o3.2, rfl, ⟨pr1 e9, pr2 e9⟩, ⟨by rw [ht]; exact hP, va_K.moved hW.alike hK, hD⟩⟩, hS.F ht⟩) hS.2.2 dX11_judge_23
    · have hf := it_f hf c2
      refine lv_aload_n hx hb dX11_judge_11 rfl (lv_at hl 0 rfl) ?_
      obtain ⟨o4, go4, hf⟩ := bd_s hf
      refine ro_Vi (As := []) (rest := []) ⟨hx, hb, hml, hown, hts⟩ (c_X11_judged l D K F hMo o1 o4 go4) (cwV 0 hts (gcV_X11_judged (mB30 _ (List.mem_of_getElem? (i := 20) rfl))) rfl rfl rfl hdV_X11_judged ⟨Nat.le_of_ble_eq_true rfl, Nat.le_of_ble_eq_true rfl⟩) hK hP hS hP (va_recv hK hP (ci := 10) (q0 := 0) rfl o_Mo) rfl hl.1 rfl (Nat.le_of_ble_eq_true rfl) dX11_judge_12 ⟨Nat.zero_le _, Nat.zero_le _⟩ (fun H locs hP hS => ?_)
      refine lv_goto (tgt := 23) hx hb dX11_judge_15 (by decide) ?_
      have e9 := Option.some.inj hf
      rw [hQ]
      exact W.iret (v := o4) hx hb hr (fun t ht hW => ⟨⟨o4, o1, rfl, ⟨pr1 e9, pr2 e9⟩, ⟨by rw [ht]; exact hP, va_K.moved hW.alike hK, hD⟩⟩, hS.F ht⟩) hS.2.2 dX11_judge_23
  rw [hHe] at hgo
  exact hgo

def wz_X11_cost : List Cond := .code yX11_cost cX11_cost 3 (some .int) :: wsL_law
abbrev r_X11_cost : Room := { frames := 3, cells := 0, slots := 0, locals := 65 }
set_option maxHeartbeats 4000000 in
set_option maxRecDepth 100000 in
theorem c_X11_cost (l : Launch) (D : va_G) (K : Nat → ClassId) (F : Nat) (hMo : Nat → Nat) (sz : Nat) (sMo : MS) (res : Int32 × MS) (hf : f_X11_cost F sMo = some res) : Met l yX11_cost wz_X11_cost r_X11_cost (va_Pc [.ref (hMo 99)] (PW D K (wMo K hMo sMo) sz)) (va_Qi (fun r u => r = res.1 ∧ u = res.2) (fun u t => BW D K (va_A (wMo K hMo sMo) sz) (wMo K hMo u) t) (va_A (wMo K hMo sMo) sz)) 0 0 (va_A (wMo K hMo sMo) sz) := by
  refine Met.ofW (cc := cX11_cost) (maxL := 3) (ret := (some .int)) (by decide) rfl ?_
  intro p e s m args below meth c s₁ B hml hv
  obtain ⟨hargs, hsz, hP, hK, hD0⟩ := hv
  have hx := B.exec
  have hb := B.bytes
  have hr := B.returns
  have hts := atoms_spec (ws := wz_X11_cost) B.pre
  have htl : ∀ w ∈ wsL_law, w.before args s = true := fun w h => hts w (List.mem_cons_of_mem _ h)
  have hown : s.vm.findClass RX11 = some m.cls := findClass_of_methodNamed B.named
  have hlocks := B.notSynchronized
  subst hsz
  have hD := hD0.self (sz := s.heap.size)
  generalize hAe : va_A (wMo K hMo sMo) s.heap.size = A at hD ⊢
  have hA : ∀ q : Nat, s.heap.size ≤ q → A q := fun q h => by rw [← hAe]; exact Or.inr h
  have hS : va_S A s.heap s.heap [] := va_S.rf
  have iX11 : ∀ w ∈ wsX110, w ∈ wz_X11_cost := fun w h => List.mem_cons_of_mem _ (inlX11 w h)
  suffices hgo : ∀ Q : State → Prop, Q = MQ below (va_Qi (fun r u => r = res.1 ∧ u = res.2) (fun u t => BW D K A (wMo K hMo u) t) A) args s 0 0 A → W p l e (headSpec wz_X11_cost r_X11_cost).room s m args below meth c s.heap [] 0 0 Q (entryFrame m args 3) from hgo _ rfl
  intro Q hQ
  have w77 : ∀ (k36 : Int32 → Int32 → MS → Option (Int32 × MS)), (∀ (x1 : Int32), ∀ (x2 : Int32), ∀ (sMo : MS), ∀ (H : Heap) (locs : List Loc) (ls : Array Slot), k36 x1 x2 sMo = some res → va_P D vwCl (wMo K hMo sMo) H → va_D A (wMo K hMo sMo) → va_S A s.heap H locs → lv_has ls 3 [(0, .ref (hMo 99)), (1, .int x1), (2, .int x2)] → W p l e (headSpec wz_X11_cost r_X11_cost).room s m args below meth c H locs 0 0 Q (F0 m 36 ls [])) → ∀ (x2 : Int32), ∀ (y0 : Int32), ∀ (y1 : Int32), ∀ (sMo : MS), ∀ (H : Heap) (locs : List Loc) (ls : Array Slot), f_X11_cost_77 F k36 x2 y0 y1 sMo = some res → va_P D vwCl (wMo K hMo sMo) H → va_D A (wMo K hMo sMo) → va_S A s.heap H locs → lv_has ls 3 [(0, .ref (hMo 99)), (2, .int x2)] → W p l e (headSpec wz_X11_cost r_X11_cost).room s m args below meth c H locs 0 0 Q (F0 m 77 ls [.int y1, .int y0]) := by
    intro k36 hk36 x2 y0 y1 sMo H locs ls hf hP hD hS hl
    unfold f_X11_cost_77 at hf
    refine lv_iadd hx hb dX11_cost_77 ?_
    refine lv_istore_n (lv' := [(1, .int (y0 + y1)), (0, .ref (hMo 99)), (2, .int x2)]) hx hb dX11_cost_78 rfl hl (by decide) rfl (fun ls hl => ?_)
    obtain ⟨v17, ev17⟩ : ∃ z : Int32, z = x2 + (1 : Int32) := ⟨_, rfl⟩
    have hf := lz_s hf v17 ev17
    refine lv_iinc (v := v17) (lv' := [(2, .int v17), (1, .int (y0 + y1)), (0, .ref (hMo 99))]) hx hb dX11_cost_79 hl (k := 2) rfl (by rw [ev17]; rfl) (by decide) rfl (fun ls hl => ?_)
    refine lv_goto (tgt := 36) hx hb dX11_cost_82 (by decide) ?_
    exact hk36 (y0 + y1) v17 sMo H locs ls hf hP hD hS (lv_sub hl [2, 1, 0] rfl)
  have w36 : ∀ (n : Nat), ∀ (x1 : Int32), ∀ (x2 : Int32), ∀ (sMo : MS), ∀ (H : Heap) (locs : List Loc) (ls : Array Slot), f_X11_cost_36 F n x1 x2 sMo = some res → va_P D vwCl (wMo K hMo sMo) H → va_D A (wMo K hMo sMo) → va_S A s.heap H locs → lv_has ls 3 [(0, .ref (hMo 99)), (1, .int x1), (2, .int x2)] → W p l e (headSpec wz_X11_cost r_X11_cost).room s m args below meth c H locs 0 0 Q (F0 m 36 ls []) := by
    intro n
    induction n with
    | zero =>
      intro x1 x2 sMo H locs ls hf
      exact absurd (show none = some res from hf) (fun h => nomatch h)
    | succ n ih =>
      intro x1 x2 sMo H locs ls hf hP hD hS hl
      rw [f_X11_cost_36] at hf
      refine lv_iload_n hx hb dX11_cost_36 rfl (lv_at hl 2 rfl) ?_
      refine lv_aload_n hx hb dX11_cost_37 rfl (lv_at hl 0 rfl) ?_
      obtain ⟨o7, go7, hf⟩ := bd_s hf
      refine ro_Vi (As := []) (rest := [.int x2]) ⟨hx, hb, hml, hown, hts⟩ (c_X11_lastStation l D K F hMo sMo o7 go7) (cwV 0 hts (gcV_X11_lastStation (mB28 _ (List.mem_of_getElem? (i := 11) rfl))) rfl rfl rfl hdV_X11_lastStation ⟨Nat.le_of_ble_eq_true rfl, Nat.le_of_ble_eq_true rfl⟩) hK hP hS hP (va_recv hK hP (ci := 10) (q0 := 0) rfl o_Mo) rfl hl.1 rfl (Nat.le_of_ble_eq_true rfl) dX11_cost_38 ⟨Nat.zero_le _, Nat.zero_le _⟩ (fun H locs hP hS => ?_)
      refine lv_icmp_ge (tgt := 85) hx hb dX11_cost_41 (by decide) (fun c8 => ?_) (fun c8 => ?_)
      · have hf := it_t hf c8
        refine lv_iload_n hx hb dX11_cost_85 rfl (lv_at hl 1 rfl) ?_
        have e9 := Option.some.inj hf
        rw [hQ]
        exact W.iret (v := x1) hx hb hr (fun t ht hW => ⟨⟨x1, sMo, rfl, ⟨pr1 e9, pr2 e9⟩, ⟨by rw [ht]; exact hP, va_K.moved hW.alike hK, hD⟩⟩, hS.F ht⟩) hS.2.2 dX11_cost_86
      · have hf := it_f hf c8
        refine lv_iload_n hx hb dX11_cost_44 rfl (lv_at hl 1 rfl) ?_
        refine lv_aload_n hx hb dX11_cost_45 rfl (lv_at hl 0 rfl) ?_
        refine va_get (D := D) (ci := 10) (v := .ref (hMo 17)) (C := RX11) (T := TX11) (N := 41) hx hb hts iX11 hown hK hP 0 o_Mo rfl 17 (by decide) (htl _ (mB6 _ (List.mem_of_getElem? (i := 5) rfl))) (fun _ h9 => h9) rfl dX11_cost_46 ?_
        refine lv_iload_n hx hb dX11_cost_49 rfl (lv_at hl 2 rfl) ?_
        obtain ⟨g9, hf⟩ := gd_s hf
        refine va_iald hx hb hK hP 5 0 (f := sMo.2.2.1 17) a_Mo_17 rfl (vpb_in g9) dX11_cost_50 ?_
        refine lv_topi (fun v10 ev10 => ?_)
        have hf := lz_s hf v10 ev10
        refine lv_if_ne (tgt := 58) hx hb dX11_cost_51 (by decide) (fun c11 => ?_) (fun c11 => ?_)
        · have hf := it_f hf c11
          refine lv_aload_n hx hb dX11_cost_58 rfl (lv_at hl 0 rfl) ?_
          refine va_get (D := D) (ci := 10) (v := .ref (hMo 17)) (C := RX11) (T := TX11) (N := 41) hx hb hts iX11 hown hK hP 0 o_Mo rfl 17 (by decide) (htl _ (mB6 _ (List.mem_of_getElem? (i := 5) rfl))) (fun _ h9 => h9) rfl dX11_cost_59 ?_
          refine lv_iload_n hx hb dX11_cost_62 rfl (lv_at hl 2 rfl) ?_
          obtain ⟨g12, hf⟩ := gd_s hf
          refine va_iald hx hb hK hP 5 0 (f := sMo.2.2.1 17) a_Mo_17 rfl (vpb_in g12) dX11_cost_63 ?_
          refine lv_topi (fun v13 ev13 => ?_)
          have hf := lz_s hf v13 ev13
          refine lv_aload_n hx hb dX11_cost_64 rfl (lv_at hl 0 rfl) ?_
          refine lv_iload_n hx hb dX11_cost_65 rfl (lv_at hl 2 rfl) ?_
          obtain ⟨o14, go14, hf⟩ := bd_s hf
          refine ro_Vi (As := [.int x2]) (rest := [.int v13, .int x1]) ⟨hx, hb, hml, hown, hts⟩ (c_X11_priceAt l D K F hMo sMo x2 o14 go14) (cwV 1 hts (gcV_X11_priceAt (mB31 _ (List.mem_of_getElem? (i := 0) rfl))) rfl rfl rfl hdV_X11_priceAt ⟨Nat.le_of_ble_eq_true rfl, Nat.le_of_ble_eq_true rfl⟩) hK hP hS hP (va_recv hK hP (ci := 10) (q0 := 0) rfl o_Mo) rfl hl.1 rfl (Nat.le_of_ble_eq_true rfl) dX11_cost_66 ⟨Nat.zero_le _, Nat.zero_le _⟩ (fun H locs hP hS => ?_)
          refine lv_imul hx hb dX11_cost_69 ?_
          refine lv_aload_n hx hb dX11_cost_70 rfl (lv_at hl 0 rfl) ?_
          refine va_get (D := D) (ci := 10) (v := .ref (hMo 15)) (C := RX11) (T := TX11) (N := 41) hx hb hts iX11 hown hK hP 0 o_Mo rfl 15 (by decide) (htl _ (mB6 _ (List.mem_of_getElem? (i := 3) rfl))) (fun _ h9 => h9) rfl dX11_cost_71 ?_
          refine lv_iconst (v := (2 : Int32)) hx hb dX11_cost_74 (by decide) ?_
          obtain ⟨g15, hf⟩ := gd_s hf
          refine va_iald hx hb hK hP 3 0 (f := sMo.2.2.1 15) a_Mo_15 rfl (vpb_in g15) dX11_cost_75 ?_
          refine lv_topi (fun v16 ev16 => ?_)
          have hf := lz_s hf v16 ev16
          refine lv_iadd hx hb dX11_cost_76 ?_
          exact w77 (f_X11_cost_36 F n) ih x2 x1 ((v13 * o14) + v16) sMo H locs ls hf hP hD hS (lv_sub hl [0, 2] rfl)
        · have hf := it_t hf c11
          refine lv_iconst (v := (0 : Int32)) hx hb dX11_cost_54 (by decide) ?_
          refine lv_goto (tgt := 77) hx hb dX11_cost_55 (by decide) ?_
          exact w77 (f_X11_cost_36 F n) ih x2 x1 (0 : Int32) sMo H locs ls hf hP hD hS (lv_sub hl [0, 2] rfl)
  have hen : entryFrame m args 3 = entryFrame m (([.ref (hMo 99)] : List Value).toArray) 3 := by rw [hargs]
  have hl := lv_entry ([.ref (hMo 99)]) (n := 3) (Nat.le_of_ble_eq_true rfl)
  rw [hen, lg_entry_eq]
  generalize (lg_sl ([.ref (hMo 99)]) ++ List.replicate (3 - (lg_sl ([.ref (hMo 99)])).length) Slot.unset).toArray = ls at hl ⊢
  have hl : lv_has ls 3 [(0, .ref (hMo 99))] := hl
  unfold f_X11_cost at hf
  obtain ⟨H, hHe⟩ : ∃ z, z = s.heap := ⟨_, rfl⟩
  obtain ⟨locs, hLe⟩ : ∃ z : List Loc, z = [] := ⟨_, rfl⟩
  rw [← hLe]
  have hS : va_S A s.heap H locs := by rw [hHe, hLe]; exact hS
  have hP : va_P D vwCl (wMo K hMo sMo) H := by rw [hHe]; exact hP
  have hgo : W p l e (headSpec wz_X11_cost r_X11_cost).room s m args below meth c H locs 0 0 Q (F0 m 0 ls []) := by
    refine lv_aload_n hx hb dX11_cost_0 rfl (lv_at hl 0 rfl) ?_
    obtain ⟨o1, go1, hf⟩ := bd_s hf
    refine rs_Vv (As := []) (rest := []) ⟨hx, hb, hml, hown, hts⟩ (c_X11_good l D K F hMo H.size sMo o1 go1) (cwV 0 hts (gcV_X11_good (mB18 _ (List.mem_of_getElem? (i := 7) rfl))) rfl rfl rfl hdV_X11_good ⟨Nat.le_of_ble_eq_true rfl, Nat.le_of_ble_eq_true rfl⟩) hK hP hD hS hA (va_recv hK hP (ci := 10) (q0 := 0) rfl o_Mo) rfl hl.1 rfl (Nat.le_of_ble_eq_true rfl) dX11_cost_1 ⟨Nat.zero_le _, Nat.zero_le _⟩ (fun H locs hP hD hS => ?_)
    have hP : va_P D vwCl (wMo K hMo o1) H := hP
    have hD : va_D A (wMo K hMo o1) := hD
    refine lv_aload_n hx hb dX11_cost_4 rfl (lv_at hl 0 rfl) ?_
    refine va_get (D := D) (ci := 10) (v := .int (o1.1 14)) (C := RX11) (T := TX11) (N := 41) hx hb hts iX11 hown hK hP 0 o_Mo rfl 14 (by decide) (htl _ (mB18 _ (List.mem_of_getElem? (i := 4) rfl))) (fun _ h9 => h9) rfl dX11_cost_5 ?_
    refine lv_if_ne (tgt := 17) hx hb dX11_cost_8 (by decide) (fun c2 => ?_) (fun c2 => ?_)
    · have hf := it_f hf c2
      refine lv_aload_n hx hb dX11_cost_17 rfl (lv_at hl 0 rfl) ?_
      obtain ⟨o3, go3, hf⟩ := bd_s hf
      refine ro_Vi (As := []) (rest := []) ⟨hx, hb, hml, hown, hts⟩ (c_X11_judged l D K F hMo o1 o3 go3) (cwV 0 hts (gcV_X11_judged (mB30 _ (List.mem_of_getElem? (i := 20) rfl))) rfl rfl rfl hdV_X11_judged ⟨Nat.le_of_ble_eq_true rfl, Nat.le_of_ble_eq_true rfl⟩) hK hP hS hP (va_recv hK hP (ci := 10) (q0 := 0) rfl o_Mo) rfl hl.1 rfl (Nat.le_of_ble_eq_true rfl) dX11_cost_18 ⟨Nat.zero_le _, Nat.zero_le _⟩ (fun H locs hP hS => ?_)
      refine lv_bipush (v := (-2 : Int32)) hx hb dX11_cost_21 (by decide) ?_
      refine lv_icmp_eq (tgt := 32) hx hb dX11_cost_23 (by decide) (fun c4 => ?_) (fun c4 => ?_)
      · have hf := it_t hf c4
        refine lv_iconst (v := (0 : Int32)) hx hb dX11_cost_32 (by decide) ?_
        refine lv_istore_n (lv' := [(1, .int (0 : Int32)), (0, .ref (hMo 99))]) hx hb dX11_cost_33 rfl hl (by decide) rfl (fun ls hl => ?_)
        refine lv_iconst (v := (0 : Int32)) hx hb dX11_cost_34 (by decide) ?_
        refine lv_istore_n (lv' := [(2, .int (0 : Int32)), (1, .int (0 : Int32)), (0, .ref (hMo 99))]) hx hb dX11_cost_35 rfl hl (by decide) rfl (fun ls hl => ?_)
        exact w36 F (0 : Int32) (0 : Int32) o1 H locs ls hf hP hD hS (lv_sub hl [2, 1, 0] rfl)
      · have hf := it_f hf c4
        refine lv_aload_n hx hb dX11_cost_26 rfl (lv_at hl 0 rfl) ?_
        refine lv_iconst (v := (5 : Int32)) hx hb dX11_cost_27 (by decide) ?_
        obtain ⟨o5, go5, hf⟩ := bd_s hf
        refine rs_Vi (As := [.int (5 : Int32)]) (rest := []) ⟨hx, hb, hml, hown, hts⟩ (c_X11_no l D K F hMo H.size o1 (5 : Int32) o5 go5) (cwV 1 hts (gcV_X11_no (mB18 _ (List.mem_of_getElem? (i := 15) rfl))) rfl rfl rfl hdV_X11_no ⟨Nat.le_of_ble_eq_true rfl, Nat.le_of_ble_eq_true rfl⟩) hK hP hD hS hA (va_recv hK hP (ci := 10) (q0 := 0) rfl o_Mo) rfl hl.1 rfl (Nat.le_of_ble_eq_true rfl) dX11_cost_28 ⟨Nat.zero_le _, Nat.zero_le _⟩ (fun H locs hP hD hS => ?_)
        have hP : va_P D vwCl (wMo K hMo o5.2) H := hP
        have hD : va_D A (wMo K hMo o5.2) := hD
        have e9 := Option.some.inj hf
        rw [hQ]
        exact W.iret (v := o5.1) hx hb hr (fun t ht hW => ⟨⟨o5.1, o5.2, rfl, ⟨pr1 e9, pr2 e9⟩, ⟨by rw [ht]; exact hP, va_K.moved hW.alike hK, hD⟩⟩, hS.F ht⟩) hS.2.2 dX11_cost_31
    · have hf := it_t hf c2
      refine lv_aload_n hx hb dX11_cost_11 rfl (lv_at hl 0 rfl) ?_
      refine lv_iconst (v := (1 : Int32)) hx hb dX11_cost_12 (by decide) ?_
      obtain ⟨o6, go6, hf⟩ := bd_s hf
      refine rs_Vi (As := [.int (1 : Int32)]) (rest := []) ⟨hx, hb, hml, hown, hts⟩ (c_X11_no l D K F hMo H.size o1 (1 : Int32) o6 go6) (cwV 1 hts (gcV_X11_no (mB18 _ (List.mem_of_getElem? (i := 15) rfl))) rfl rfl rfl hdV_X11_no ⟨Nat.le_of_ble_eq_true rfl, Nat.le_of_ble_eq_true rfl⟩) hK hP hD hS hA (va_recv hK hP (ci := 10) (q0 := 0) rfl o_Mo) rfl hl.1 rfl (Nat.le_of_ble_eq_true rfl) dX11_cost_13 ⟨Nat.zero_le _, Nat.zero_le _⟩ (fun H locs hP hD hS => ?_)
      have hP : va_P D vwCl (wMo K hMo o6.2) H := hP
      have hD : va_D A (wMo K hMo o6.2) := hD
      have e9 := Option.some.inj hf
      rw [hQ]
      exact W.iret (v := o6.1) hx hb hr (fun t ht hW => ⟨⟨o6.1, o6.2, rfl, ⟨pr1 e9, pr2 e9⟩, ⟨by rw [ht]; exact hP, va_K.moved hW.alike hK, hD⟩⟩, hS.F ht⟩) hS.2.2 dX11_cost_16
  rw [hHe] at hgo
  exact hgo

def wz_X11_time : List Cond := .code yX11_time cX11_time 3 (some .int) :: wsL_law
abbrev r_X11_time : Room := { frames := 3, cells := 0, slots := 0, locals := 65 }
set_option maxHeartbeats 4000000 in
set_option maxRecDepth 100000 in
theorem c_X11_time (l : Launch) (D : va_G) (K : Nat → ClassId) (F : Nat) (hMo : Nat → Nat) (sz : Nat) (sMo : MS) (res : Int32 × MS) (hf : f_X11_time F sMo = some res) : Met l yX11_time wz_X11_time r_X11_time (va_Pc [.ref (hMo 99)] (PW D K (wMo K hMo sMo) sz)) (va_Qi (fun r u => r = res.1 ∧ u = res.2) (fun u t => BW D K (va_A (wMo K hMo sMo) sz) (wMo K hMo u) t) (va_A (wMo K hMo sMo) sz)) 0 0 (va_A (wMo K hMo sMo) sz) := by
  refine Met.ofW (cc := cX11_time) (maxL := 3) (ret := (some .int)) (by decide) rfl ?_
  intro p e s m args below meth c s₁ B hml hv
  obtain ⟨hargs, hsz, hP, hK, hD0⟩ := hv
  have hx := B.exec
  have hb := B.bytes
  have hr := B.returns
  have hts := atoms_spec (ws := wz_X11_time) B.pre
  have htl : ∀ w ∈ wsL_law, w.before args s = true := fun w h => hts w (List.mem_cons_of_mem _ h)
  have hown : s.vm.findClass RX11 = some m.cls := findClass_of_methodNamed B.named
  have hlocks := B.notSynchronized
  subst hsz
  have hD := hD0.self (sz := s.heap.size)
  generalize hAe : va_A (wMo K hMo sMo) s.heap.size = A at hD ⊢
  have hA : ∀ q : Nat, s.heap.size ≤ q → A q := fun q h => by rw [← hAe]; exact Or.inr h
  have hS : va_S A s.heap s.heap [] := va_S.rf
  have iX11 : ∀ w ∈ wsX110, w ∈ wz_X11_time := fun w h => List.mem_cons_of_mem _ (inlX11 w h)
  suffices hgo : ∀ Q : State → Prop, Q = MQ below (va_Qi (fun r u => r = res.1 ∧ u = res.2) (fun u t => BW D K A (wMo K hMo u) t) A) args s 0 0 A → W p l e (headSpec wz_X11_time r_X11_time).room s m args below meth c s.heap [] 0 0 Q (entryFrame m args 3) from hgo _ rfl
  intro Q hQ
  have w88 : ∀ (k36 : Int32 → Int32 → MS → Option (Int32 × MS)), (∀ (x1 : Int32), ∀ (x2 : Int32), ∀ (sMo : MS), ∀ (H : Heap) (locs : List Loc) (ls : Array Slot), k36 x1 x2 sMo = some res → va_P D vwCl (wMo K hMo sMo) H → va_D A (wMo K hMo sMo) → va_S A s.heap H locs → lv_has ls 3 [(0, .ref (hMo 99)), (1, .int x1), (2, .int x2)] → W p l e (headSpec wz_X11_time r_X11_time).room s m args below meth c H locs 0 0 Q (F0 m 36 ls [])) → ∀ (x2 : Int32), ∀ (y0 : Int32), ∀ (y1 : Int32), ∀ (y2 : Int32), ∀ (sMo : MS), ∀ (H : Heap) (locs : List Loc) (ls : Array Slot), f_X11_time_88 F k36 x2 y0 y1 y2 sMo = some res → va_P D vwCl (wMo K hMo sMo) H → va_D A (wMo K hMo sMo) → va_S A s.heap H locs → lv_has ls 3 [(0, .ref (hMo 99)), (2, .int x2)] → W p l e (headSpec wz_X11_time r_X11_time).room s m args below meth c H locs 0 0 Q (F0 m 88 ls [.int y2, .int y1, .int y0]) := by
    intro k36 hk36 x2 y0 y1 y2 sMo H locs ls hf hP hD hS hl
    unfold f_X11_time_88 at hf
    refine lv_iadd hx hb dX11_time_88 ?_
    refine lv_iadd hx hb dX11_time_89 ?_
    refine lv_istore_n (lv' := [(1, .int (y0 + (y1 + y2))), (0, .ref (hMo 99)), (2, .int x2)]) hx hb dX11_time_90 rfl hl (by decide) rfl (fun ls hl => ?_)
    obtain ⟨v18, ev18⟩ : ∃ z : Int32, z = x2 + (1 : Int32) := ⟨_, rfl⟩
    have hf := lz_s hf v18 ev18
    refine lv_iinc (v := v18) (lv' := [(2, .int v18), (1, .int (y0 + (y1 + y2))), (0, .ref (hMo 99))]) hx hb dX11_time_91 hl (k := 2) rfl (by rw [ev18]; rfl) (by decide) rfl (fun ls hl => ?_)
    refine lv_goto (tgt := 36) hx hb dX11_time_94 (by decide) ?_
    exact hk36 (y0 + (y1 + y2)) v18 sMo H locs ls hf hP hD hS (lv_sub hl [2, 1, 0] rfl)
  have w36 : ∀ (n : Nat), ∀ (x1 : Int32), ∀ (x2 : Int32), ∀ (sMo : MS), ∀ (H : Heap) (locs : List Loc) (ls : Array Slot), f_X11_time_36 F n x1 x2 sMo = some res → va_P D vwCl (wMo K hMo sMo) H → va_D A (wMo K hMo sMo) → va_S A s.heap H locs → lv_has ls 3 [(0, .ref (hMo 99)), (1, .int x1), (2, .int x2)] → W p l e (headSpec wz_X11_time r_X11_time).room s m args below meth c H locs 0 0 Q (F0 m 36 ls []) := by
    intro n
    induction n with
    | zero =>
      intro x1 x2 sMo H locs ls hf
      exact absurd (show none = some res from hf) (fun h => nomatch h)
    | succ n ih =>
      intro x1 x2 sMo H locs ls hf hP hD hS hl
      rw [f_X11_time_36] at hf
      refine lv_iload_n hx hb dX11_time_36 rfl (lv_at hl 2 rfl) ?_
      refine lv_aload_n hx hb dX11_time_37 rfl (lv_at hl 0 rfl) ?_
      obtain ⟨o7, go7, hf⟩ := bd_s hf
      refine ro_Vi (As := []) (rest := [.int x2]) ⟨hx, hb, hml, hown, hts⟩ (c_X11_lastStation l D K F hMo sMo o7 go7) (cwV 0 hts (gcV_X11_lastStation (mB28 _ (List.mem_of_getElem? (i := 11) rfl))) rfl rfl rfl hdV_X11_lastStation ⟨Nat.le_of_ble_eq_true rfl, Nat.le_of_ble_eq_true rfl⟩) hK hP hS hP (va_recv hK hP (ci := 10) (q0 := 0) rfl o_Mo) rfl hl.1 rfl (Nat.le_of_ble_eq_true rfl) dX11_time_38 ⟨Nat.zero_le _, Nat.zero_le _⟩ (fun H locs hP hS => ?_)
      refine lv_icmp_ge (tgt := 97) hx hb dX11_time_41 (by decide) (fun c8 => ?_) (fun c8 => ?_)
      · have hf := it_t hf c8
        refine lv_iload_n hx hb dX11_time_97 rfl (lv_at hl 1 rfl) ?_
        have e9 := Option.some.inj hf
        rw [hQ]
        exact W.iret (v := x1) hx hb hr (fun t ht hW => ⟨⟨x1, sMo, rfl, ⟨pr1 e9, pr2 e9⟩, ⟨by rw [ht]; exact hP, va_K.moved hW.alike hK, hD⟩⟩, hS.F ht⟩) hS.2.2 dX11_time_98
      · have hf := it_f hf c8
        refine lv_iload_n hx hb dX11_time_44 rfl (lv_at hl 1 rfl) ?_
        refine lv_aload_n hx hb dX11_time_45 rfl (lv_at hl 0 rfl) ?_
        refine va_get (D := D) (ci := 10) (v := .ref (hMo 15)) (C := RX11) (T := TX11) (N := 41) hx hb hts iX11 hown hK hP 0 o_Mo rfl 15 (by decide) (htl _ (mB6 _ (List.mem_of_getElem? (i := 3) rfl))) (fun _ h9 => h9) rfl dX11_time_46 ?_
        refine lv_bipush (v := (119 : Int32)) hx hb dX11_time_49 (by decide) ?_
        refine lv_bipush (v := (9 : Int32)) hx hb dX11_time_51 (by decide) ?_
        refine lv_aload_n hx hb dX11_time_53 rfl (lv_at hl 0 rfl) ?_
        refine lv_iload_n hx hb dX11_time_54 rfl (lv_at hl 2 rfl) ?_
        obtain ⟨o9, go9, hf⟩ := bd_s hf
        refine ro_Vi (As := [.int x2]) (rest := [.int (9 : Int32), .int (119 : Int32), .ref (hMo 15), .int x1]) ⟨hx, hb, hml, hown, hts⟩ (c_X11_placeOf l D K F hMo sMo x2 o9 go9) (cwV 1 hts (gcV_X11_placeOf (mB26 _ (List.mem_of_getElem? (i := 19) rfl))) rfl rfl rfl hdV_X11_placeOf ⟨Nat.le_of_ble_eq_true rfl, Nat.le_of_ble_eq_true rfl⟩) hK hP hS hP (va_recv hK hP (ci := 10) (q0 := 0) rfl o_Mo) rfl hl.1 rfl (Nat.le_of_ble_eq_true rfl) dX11_time_55 ⟨Nat.zero_le _, Nat.zero_le _⟩ (fun H locs hP hS => ?_)
        refine lv_imul hx hb dX11_time_58 ?_
        refine lv_iadd hx hb dX11_time_59 ?_
        refine lv_aload_n hx hb dX11_time_60 rfl (lv_at hl 0 rfl) ?_
        refine lv_iload_n hx hb dX11_time_61 rfl (lv_at hl 2 rfl) ?_
        refine lv_iconst (v := (1 : Int32)) hx hb dX11_time_62 (by decide) ?_
        refine lv_iadd hx hb dX11_time_63 ?_
        obtain ⟨o10, go10, hf⟩ := bd_s hf
        refine ro_Vi (As := [.int (x2 + (1 : Int32))]) (rest := [.int ((119 : Int32) + ((9 : Int32) * o9)), .ref (hMo 15), .int x1]) ⟨hx, hb, hml, hown, hts⟩ (c_X11_placeOf l D K F hMo sMo (x2 + (1 : Int32)) o10 go10) (cwV 1 hts (gcV_X11_placeOf (mB26 _ (List.mem_of_getElem? (i := 19) rfl))) rfl rfl rfl hdV_X11_placeOf ⟨Nat.le_of_ble_eq_true rfl, Nat.le_of_ble_eq_true rfl⟩) hK hP hS hP (va_recv hK hP (ci := 10) (q0 := 0) rfl o_Mo) rfl hl.1 rfl (Nat.le_of_ble_eq_true rfl) dX11_time_64 ⟨Nat.zero_le _, Nat.zero_le _⟩ (fun H locs hP hS => ?_)
        refine lv_iadd hx hb dX11_time_67 ?_
        obtain ⟨g11, hf⟩ := gd_s hf
        refine va_iald hx hb hK hP 3 0 (f := sMo.2.2.1 15) a_Mo_15 rfl (vpb_in g11) dX11_time_68 ?_
        refine lv_topi (fun v12 ev12 => ?_)
        have hf := lz_s hf v12 ev12
        refine lv_aload_n hx hb dX11_time_69 rfl (lv_at hl 0 rfl) ?_
        refine va_get (D := D) (ci := 10) (v := .ref (hMo 17)) (C := RX11) (T := TX11) (N := 41) hx hb hts iX11 hown hK hP 0 o_Mo rfl 17 (by decide) (htl _ (mB6 _ (List.mem_of_getElem? (i := 5) rfl))) (fun _ h9 => h9) rfl dX11_time_70 ?_
        refine lv_iload_n hx hb dX11_time_73 rfl (lv_at hl 2 rfl) ?_
        obtain ⟨g13, hf⟩ := gd_s hf
        refine va_iald hx hb hK hP 5 0 (f := sMo.2.2.1 17) a_Mo_17 rfl (vpb_in g13) dX11_time_74 ?_
        refine lv_topi (fun v14 ev14 => ?_)
        have hf := lz_s hf v14 ev14
        refine lv_if_le (tgt := 87) hx hb dX11_time_75 (by decide) (fun c15 => ?_) (fun c15 => ?_)
        · have hf := it_t hf c15
          refine lv_iconst (v := (0 : Int32)) hx hb dX11_time_87 (by decide) ?_
          exact w88 (f_X11_time_36 F n) ih x2 x1 v12 (0 : Int32) sMo H locs ls hf hP hD hS (lv_sub hl [0, 2] rfl)
        · have hf := it_f hf c15
          refine lv_aload_n hx hb dX11_time_78 rfl (lv_at hl 0 rfl) ?_
          refine va_get (D := D) (ci := 10) (v := .ref (hMo 15)) (C := RX11) (T := TX11) (N := 41) hx hb hts iX11 hown hK hP 0 o_Mo rfl 15 (by decide) (htl _ (mB6 _ (List.mem_of_getElem? (i := 3) rfl))) (fun _ h9 => h9) rfl dX11_time_79 ?_
          refine lv_iconst (v := (3 : Int32)) hx hb dX11_time_82 (by decide) ?_
          obtain ⟨g16, hf⟩ := gd_s hf
          refine va_iald hx hb hK hP 3 0 (f := sMo.2.2.1 15) a_Mo_15 rfl (vpb_in g16) dX11_time_83 ?_
          refine lv_topi (fun v17 ev17 => ?_)
          have hf := lz_s hf v17 ev17
          refine lv_goto (tgt := 88) hx hb dX11_time_84 (by decide) ?_
          exact w88 (f_X11_time_36 F n) ih x2 x1 v12 v17 sMo H locs ls hf hP hD hS (lv_sub hl [0, 2] rfl)
  have hen : entryFrame m args 3 = entryFrame m (([.ref (hMo 99)] : List Value).toArray) 3 := by rw [hargs]
  have hl := lv_entry ([.ref (hMo 99)]) (n := 3) (Nat.le_of_ble_eq_true rfl)
  rw [hen, lg_entry_eq]
  generalize (lg_sl ([.ref (hMo 99)]) ++ List.replicate (3 - (lg_sl ([.ref (hMo 99)])).length) Slot.unset).toArray = ls at hl ⊢
  have hl : lv_has ls 3 [(0, .ref (hMo 99))] := hl
  unfold f_X11_time at hf
  obtain ⟨H, hHe⟩ : ∃ z, z = s.heap := ⟨_, rfl⟩
  obtain ⟨locs, hLe⟩ : ∃ z : List Loc, z = [] := ⟨_, rfl⟩
  rw [← hLe]
  have hS : va_S A s.heap H locs := by rw [hHe, hLe]; exact hS
  have hP : va_P D vwCl (wMo K hMo sMo) H := by rw [hHe]; exact hP
  have hgo : W p l e (headSpec wz_X11_time r_X11_time).room s m args below meth c H locs 0 0 Q (F0 m 0 ls []) := by
    refine lv_aload_n hx hb dX11_time_0 rfl (lv_at hl 0 rfl) ?_
    obtain ⟨o1, go1, hf⟩ := bd_s hf
    refine rs_Vv (As := []) (rest := []) ⟨hx, hb, hml, hown, hts⟩ (c_X11_good l D K F hMo H.size sMo o1 go1) (cwV 0 hts (gcV_X11_good (mB18 _ (List.mem_of_getElem? (i := 7) rfl))) rfl rfl rfl hdV_X11_good ⟨Nat.le_of_ble_eq_true rfl, Nat.le_of_ble_eq_true rfl⟩) hK hP hD hS hA (va_recv hK hP (ci := 10) (q0 := 0) rfl o_Mo) rfl hl.1 rfl (Nat.le_of_ble_eq_true rfl) dX11_time_1 ⟨Nat.zero_le _, Nat.zero_le _⟩ (fun H locs hP hD hS => ?_)
    have hP : va_P D vwCl (wMo K hMo o1) H := hP
    have hD : va_D A (wMo K hMo o1) := hD
    refine lv_aload_n hx hb dX11_time_4 rfl (lv_at hl 0 rfl) ?_
    refine va_get (D := D) (ci := 10) (v := .int (o1.1 14)) (C := RX11) (T := TX11) (N := 41) hx hb hts iX11 hown hK hP 0 o_Mo rfl 14 (by decide) (htl _ (mB18 _ (List.mem_of_getElem? (i := 4) rfl))) (fun _ h9 => h9) rfl dX11_time_5 ?_
    refine lv_if_ne (tgt := 17) hx hb dX11_time_8 (by decide) (fun c2 => ?_) (fun c2 => ?_)
    · have hf := it_f hf c2
      refine lv_aload_n hx hb dX11_time_17 rfl (lv_at hl 0 rfl) ?_
      obtain ⟨o3, go3, hf⟩ := bd_s hf
      refine ro_Vi (As := []) (rest := []) ⟨hx, hb, hml, hown, hts⟩ (c_X11_judged l D K F hMo o1 o3 go3) (cwV 0 hts (gcV_X11_judged (mB30 _ (List.mem_of_getElem? (i := 20) rfl))) rfl rfl rfl hdV_X11_judged ⟨Nat.le_of_ble_eq_true rfl, Nat.le_of_ble_eq_true rfl⟩) hK hP hS hP (va_recv hK hP (ci := 10) (q0 := 0) rfl o_Mo) rfl hl.1 rfl (Nat.le_of_ble_eq_true rfl) dX11_time_18 ⟨Nat.zero_le _, Nat.zero_le _⟩ (fun H locs hP hS => ?_)
      refine lv_bipush (v := (-2 : Int32)) hx hb dX11_time_21 (by decide) ?_
      refine lv_icmp_eq (tgt := 32) hx hb dX11_time_23 (by decide) (fun c4 => ?_) (fun c4 => ?_)
      · have hf := it_t hf c4
        refine lv_iconst (v := (0 : Int32)) hx hb dX11_time_32 (by decide) ?_
        refine lv_istore_n (lv' := [(1, .int (0 : Int32)), (0, .ref (hMo 99))]) hx hb dX11_time_33 rfl hl (by decide) rfl (fun ls hl => ?_)
        refine lv_iconst (v := (0 : Int32)) hx hb dX11_time_34 (by decide) ?_
        refine lv_istore_n (lv' := [(2, .int (0 : Int32)), (1, .int (0 : Int32)), (0, .ref (hMo 99))]) hx hb dX11_time_35 rfl hl (by decide) rfl (fun ls hl => ?_)
        exact w36 F (0 : Int32) (0 : Int32) o1 H locs ls hf hP hD hS (lv_sub hl [2, 1, 0] rfl)
      · have hf := it_f hf c4
        refine lv_aload_n hx hb dX11_time_26 rfl (lv_at hl 0 rfl) ?_
        refine lv_iconst (v := (5 : Int32)) hx hb dX11_time_27 (by decide) ?_
        obtain ⟨o5, go5, hf⟩ := bd_s hf
        refine rs_Vi (As := [.int (5 : Int32)]) (rest := []) ⟨hx, hb, hml, hown, hts⟩ (c_X11_no l D K F hMo H.size o1 (5 : Int32) o5 go5) (cwV 1 hts (gcV_X11_no (mB18 _ (List.mem_of_getElem? (i := 15) rfl))) rfl rfl rfl hdV_X11_no ⟨Nat.le_of_ble_eq_true rfl, Nat.le_of_ble_eq_true rfl⟩) hK hP hD hS hA (va_recv hK hP (ci := 10) (q0 := 0) rfl o_Mo) rfl hl.1 rfl (Nat.le_of_ble_eq_true rfl) dX11_time_28 ⟨Nat.zero_le _, Nat.zero_le _⟩ (fun H locs hP hD hS => ?_)
        have hP : va_P D vwCl (wMo K hMo o5.2) H := hP
        have hD : va_D A (wMo K hMo o5.2) := hD
        have e9 := Option.some.inj hf
        rw [hQ]
        exact W.iret (v := o5.1) hx hb hr (fun t ht hW => ⟨⟨o5.1, o5.2, rfl, ⟨pr1 e9, pr2 e9⟩, ⟨by rw [ht]; exact hP, va_K.moved hW.alike hK, hD⟩⟩, hS.F ht⟩) hS.2.2 dX11_time_31
    · have hf := it_t hf c2
      refine lv_aload_n hx hb dX11_time_11 rfl (lv_at hl 0 rfl) ?_
      refine lv_iconst (v := (1 : Int32)) hx hb dX11_time_12 (by decide) ?_
      obtain ⟨o6, go6, hf⟩ := bd_s hf
      refine rs_Vi (As := [.int (1 : Int32)]) (rest := []) ⟨hx, hb, hml, hown, hts⟩ (c_X11_no l D K F hMo H.size o1 (1 : Int32) o6 go6) (cwV 1 hts (gcV_X11_no (mB18 _ (List.mem_of_getElem? (i := 15) rfl))) rfl rfl rfl hdV_X11_no ⟨Nat.le_of_ble_eq_true rfl, Nat.le_of_ble_eq_true rfl⟩) hK hP hD hS hA (va_recv hK hP (ci := 10) (q0 := 0) rfl o_Mo) rfl hl.1 rfl (Nat.le_of_ble_eq_true rfl) dX11_time_13 ⟨Nat.zero_le _, Nat.zero_le _⟩ (fun H locs hP hD hS => ?_)
      have hP : va_P D vwCl (wMo K hMo o6.2) H := hP
      have hD : va_D A (wMo K hMo o6.2) := hD
      have e9 := Option.some.inj hf
      rw [hQ]
      exact W.iret (v := o6.1) hx hb hr (fun t ht hW => ⟨⟨o6.1, o6.2, rfl, ⟨pr1 e9, pr2 e9⟩, ⟨by rw [ht]; exact hP, va_K.moved hW.alike hK, hD⟩⟩, hS.F ht⟩) hS.2.2 dX11_time_16
  rw [hHe] at hgo
  exact hgo

def wz_X11_layPlans : List Cond := .code yX11_layPlans cX11_layPlans 10 none :: wsL_law
abbrev r_X11_layPlans : Room := { frames := 2, cells := 0, slots := 0, locals := 43 }
set_option maxHeartbeats 4000000 in
set_option maxRecDepth 100000 in
theorem c_X11_layPlans (l : Launch) (D : va_G) (K : Nat → ClassId) (F : Nat) (hMo : Nat → Nat) (sz : Nat) (sMo : MS) (p1 : Int32) (p2 : Int32) (res : MS) (hf : f_X11_layPlans F p1 p2 sMo = some res) : Met l yX11_layPlans wz_X11_layPlans r_X11_layPlans (va_Pc [.ref (hMo 99), .int p1, .int p2] (PW D K (wMo K hMo sMo) sz)) (va_Qv (fun u => u = res) (fun u t => BW D K (va_A (wMo K hMo sMo) sz) (wMo K hMo u) t) (va_A (wMo K hMo sMo) sz)) 0 0 (va_A (wMo K hMo sMo) sz) := by
  refine Met.ofW (cc := cX11_layPlans) (maxL := 10) (ret := none) (by decide) rfl ?_
  intro p e s m args below meth c s₁ B hml hv
  obtain ⟨hargs, hsz, hP, hK, hD0⟩ := hv
  have hx := B.exec
  have hb := B.bytes
  have hr := B.returns
  have hts := atoms_spec (ws := wz_X11_layPlans) B.pre
  have htl : ∀ w ∈ wsL_law, w.before args s = true := fun w h => hts w (List.mem_cons_of_mem _ h)
  have hown : s.vm.findClass RX11 = some m.cls := findClass_of_methodNamed B.named
  have hlocks := B.notSynchronized
  subst hsz
  have hD := hD0.self (sz := s.heap.size)
  generalize hAe : va_A (wMo K hMo sMo) s.heap.size = A at hD ⊢
  have hA : ∀ q : Nat, s.heap.size ≤ q → A q := fun q h => by rw [← hAe]; exact Or.inr h
  have hS : va_S A s.heap s.heap [] := va_S.rf
  have iX11 : ∀ w ∈ wsX110, w ∈ wz_X11_layPlans := fun w h => List.mem_cons_of_mem _ (inlX11 w h)
  suffices hgo : ∀ Q : State → Prop, Q = MQ below (va_Qv (fun u => u = res) (fun u t => BW D K A (wMo K hMo u) t) A) args s 0 0 A → W p l e (headSpec wz_X11_layPlans r_X11_layPlans).room s m args below meth c s.heap [] 0 0 Q (entryFrame m args 10) from hgo _ rfl
  intro Q hQ
  have w269 : ∀ (k40 : Int32 → MS → Option MS), (∀ (x3 : Int32), ∀ (sMo : MS), ∀ (H : Heap) (locs : List Loc) (ls : Array Slot), k40 x3 sMo = some res → va_P D vwCl (wMo K hMo sMo) H → va_D A (wMo K hMo sMo) → va_S A s.heap H locs → lv_has ls 10 [(0, .ref (hMo 99)), (1, .int p1), (2, .int p2), (3, .int x3)] → W p l e (headSpec wz_X11_layPlans r_X11_layPlans).room s m args below meth c H locs 0 0 Q (F0 m 40 ls [])) → ∀ (x3 : Int32), ∀ (sMo : MS), ∀ (H : Heap) (locs : List Loc) (ls : Array Slot), f_X11_layPlans_269 F p1 p2 k40 x3 sMo = some res → va_P D vwCl (wMo K hMo sMo) H → va_D A (wMo K hMo sMo) → va_S A s.heap H locs → lv_has ls 10 [(0, .ref (hMo 99)), (1, .int p1), (2, .int p2), (3, .int x3)] → W p l e (headSpec wz_X11_layPlans r_X11_layPlans).room s m args below meth c H locs 0 0 Q (F0 m 269 ls []) := by
    intro k40 hk40 x3 sMo H locs ls hf hP hD hS hl
    unfold f_X11_layPlans_269 at hf
    obtain ⟨v48, ev48⟩ : ∃ z : Int32, z = x3 + (-1 : Int32) := ⟨_, rfl⟩
    have hf := lz_s hf v48 ev48
    refine lv_iinc (v := v48) (lv' := [(3, .int v48), (0, .ref (hMo 99)), (1, .int p1), (2, .int p2)]) hx hb dX11_layPlans_269 hl (k := 3) rfl (by rw [ev48]; rfl) (by decide) rfl (fun ls hl => ?_)
    refine lv_goto (tgt := 40) hx hb dX11_layPlans_272 (by decide) ?_
    exact hk40 v48 sMo H locs ls hf hP hD hS (lv_sub hl [1, 2, 3, 0] rfl)
  have w263 : ∀ (k67 : Int32 → Int32 → Int32 → MS → Option MS), (∀ (x3 : Int32), ∀ (x4 : Int32), ∀ (x5 : Int32), ∀ (sMo : MS), ∀ (H : Heap) (locs : List Loc) (ls : Array Slot), k67 x3 x4 x5 sMo = some res → va_P D vwCl (wMo K hMo sMo) H → va_D A (wMo K hMo sMo) → va_S A s.heap H locs → lv_has ls 10 [(0, .ref (hMo 99)), (1, .int p1), (2, .int p2), (3, .int x3), (4, .int x4), (5, .int x5)] → W p l e (headSpec wz_X11_layPlans r_X11_layPlans).room s m args below meth c H locs 0 0 Q (F0 m 67 ls [])) → ∀ (x3 : Int32), ∀ (x4 : Int32), ∀ (x5 : Int32), ∀ (sMo : MS), ∀ (H : Heap) (locs : List Loc) (ls : Array Slot), f_X11_layPlans_263 F p1 p2 k67 x3 x4 x5 sMo = some res → va_P D vwCl (wMo K hMo sMo) H → va_D A (wMo K hMo sMo) → va_S A s.heap H locs → lv_has ls 10 [(0, .ref (hMo 99)), (1, .int p1), (2, .int p2), (3, .int x3), (4, .int x4), (5, .int x5)] → W p l e (headSpec wz_X11_layPlans r_X11_layPlans).room s m args below meth c H locs 0 0 Q (F0 m 263 ls []) := by
    intro k67 hk67 x3 x4 x5 sMo H locs ls hf hP hD hS hl
    unfold f_X11_layPlans_263 at hf
    obtain ⟨v47, ev47⟩ : ∃ z : Int32, z = x5 + (1 : Int32) := ⟨_, rfl⟩
    have hf := lz_s hf v47 ev47
    refine lv_iinc (v := v47) (lv' := [(5, .int v47), (0, .ref (hMo 99)), (1, .int p1), (2, .int p2), (3, .int x3), (4, .int x4)]) hx hb dX11_layPlans_263 hl (k := 5) rfl (by rw [ev47]; rfl) (by decide) rfl (fun ls hl => ?_)
    refine lv_goto (tgt := 67) hx hb dX11_layPlans_266 (by decide) ?_
    exact hk67 x3 x4 v47 sMo H locs ls hf hP hD hS (lv_sub hl [1, 2, 3, 4, 5, 0] rfl)
  have w257 : ∀ (k108 : Int32 → Int32 → Int32 → Int32 → Int32 → MS → Option MS), (∀ (x3 : Int32), ∀ (x4 : Int32), ∀ (x5 : Int32), ∀ (x6 : Int32), ∀ (x7 : Int32), ∀ (sMo : MS), ∀ (H : Heap) (locs : List Loc) (ls : Array Slot), k108 x3 x4 x5 x6 x7 sMo = some res → va_P D vwCl (wMo K hMo sMo) H → va_D A (wMo K hMo sMo) → va_S A s.heap H locs → lv_has ls 10 [(0, .ref (hMo 99)), (1, .int p1), (2, .int p2), (3, .int x3), (4, .int x4), (5, .int x5), (6, .int x6), (7, .int x7)] → W p l e (headSpec wz_X11_layPlans r_X11_layPlans).room s m args below meth c H locs 0 0 Q (F0 m 108 ls [])) → ∀ (x3 : Int32), ∀ (x4 : Int32), ∀ (x5 : Int32), ∀ (x6 : Int32), ∀ (x7 : Int32), ∀ (sMo : MS), ∀ (H : Heap) (locs : List Loc) (ls : Array Slot), f_X11_layPlans_257 F p1 p2 k108 x3 x4 x5 x6 x7 sMo = some res → va_P D vwCl (wMo K hMo sMo) H → va_D A (wMo K hMo sMo) → va_S A s.heap H locs → lv_has ls 10 [(0, .ref (hMo 99)), (1, .int p1), (2, .int p2), (3, .int x3), (4, .int x4), (5, .int x5), (6, .int x6), (7, .int x7)] → W p l e (headSpec wz_X11_layPlans r_X11_layPlans).room s m args below meth c H locs 0 0 Q (F0 m 257 ls []) := by
    intro k108 hk108 x3 x4 x5 x6 x7 sMo H locs ls hf hP hD hS hl
    unfold f_X11_layPlans_257 at hf
    obtain ⟨v46, ev46⟩ : ∃ z : Int32, z = x7 + (1 : Int32) := ⟨_, rfl⟩
    have hf := lz_s hf v46 ev46
    refine lv_iinc (v := v46) (lv' := [(7, .int v46), (0, .ref (hMo 99)), (1, .int p1), (2, .int p2), (3, .int x3), (4, .int x4), (5, .int x5), (6, .int x6)]) hx hb dX11_layPlans_257 hl (k := 7) rfl (by rw [ev46]; rfl) (by decide) rfl (fun ls hl => ?_)
    refine lv_goto (tgt := 108) hx hb dX11_layPlans_260 (by decide) ?_
    exact hk108 x3 x4 x5 x6 v46 sMo H locs ls hf hP hD hS (lv_sub hl [1, 2, 3, 4, 5, 6, 7, 0] rfl)
  have w221 : ∀ (k108 : Int32 → Int32 → Int32 → Int32 → Int32 → MS → Option MS), (∀ (x3 : Int32), ∀ (x4 : Int32), ∀ (x5 : Int32), ∀ (x6 : Int32), ∀ (x7 : Int32), ∀ (sMo : MS), ∀ (H : Heap) (locs : List Loc) (ls : Array Slot), k108 x3 x4 x5 x6 x7 sMo = some res → va_P D vwCl (wMo K hMo sMo) H → va_D A (wMo K hMo sMo) → va_S A s.heap H locs → lv_has ls 10 [(0, .ref (hMo 99)), (1, .int p1), (2, .int p2), (3, .int x3), (4, .int x4), (5, .int x5), (6, .int x6), (7, .int x7)] → W p l e (headSpec wz_X11_layPlans r_X11_layPlans).room s m args below meth c H locs 0 0 Q (F0 m 108 ls [])) → ∀ (x3 : Int32), ∀ (x4 : Int32), ∀ (x5 : Int32), ∀ (x6 : Int32), ∀ (x7 : Int32), ∀ (y0 : Int32), ∀ (y1 : Int32), ∀ (sMo : MS), ∀ (H : Heap) (locs : List Loc) (ls : Array Slot), f_X11_layPlans_221 F p1 p2 k108 x3 x4 x5 x6 x7 y0 y1 sMo = some res → va_P D vwCl (wMo K hMo sMo) H → va_D A (wMo K hMo sMo) → va_S A s.heap H locs → lv_has ls 10 [(0, .ref (hMo 99)), (1, .int p1), (2, .int p2), (3, .int x3), (4, .int x4), (5, .int x5), (6, .int x6), (7, .int x7)] → W p l e (headSpec wz_X11_layPlans r_X11_layPlans).room s m args below meth c H locs 0 0 Q (F0 m 221 ls [.int y1, .int y0]) := by
    intro k108 hk108 x3 x4 x5 x6 x7 y0 y1 sMo H locs ls hf hP hD hS hl
    unfold f_X11_layPlans_221 at hf
    refine lv_iadd hx hb dX11_layPlans_221 ?_
    refine lv_istore (lv' := [(9, .int (y0 + y1)), (0, .ref (hMo 99)), (1, .int p1), (2, .int p2), (3, .int x3), (4, .int x4), (5, .int x5), (6, .int x6), (7, .int x7)]) hx hb dX11_layPlans_222 hl (by decide) rfl (fun ls hl => ?_)
    refine lv_iload hx hb dX11_layPlans_224 (lv_at hl 0 rfl) ?_
    refine lv_aload_n hx hb dX11_layPlans_226 rfl (lv_at hl 1 rfl) ?_
    refine va_get (D := D) (ci := 10) (v := .ref (hMo 23)) (C := RX11) (T := TX11) (N := 41) hx hb hts iX11 hown hK hP 0 o_Mo rfl 23 (by decide) (htl _ (mB6 _ (List.mem_of_getElem? (i := 9) rfl))) (fun _ h9 => h9) rfl dX11_layPlans_227 ?_
    refine lv_iload hx hb dX11_layPlans_230 (lv_at hl 7 rfl) ?_
    obtain ⟨g39, hf⟩ := gd_s hf
    refine va_iald hx hb hK hP 9 0 (f := sMo.2.2.1 23) a_Mo_23 rfl (vpb_in g39) dX11_layPlans_232 ?_
    refine lv_topi (fun v40 ev40 => ?_)
    have hf := lz_s hf v40 ev40
    refine lv_icmp_lt (tgt := 239) hx hb dX11_layPlans_233 (by decide) (fun c41 => ?_) (fun c41 => ?_)
    · have hf := it_t hf c41
      refine lv_aload_n hx hb dX11_layPlans_239 rfl (lv_at hl 1 rfl) ?_
      refine va_get (D := D) (ci := 10) (v := .ref (hMo 23)) (C := RX11) (T := TX11) (N := 41) hx hb hts iX11 hown hK hP 0 o_Mo rfl 23 (by decide) (htl _ (mB6 _ (List.mem_of_getElem? (i := 9) rfl))) (fun _ h9 => h9) rfl dX11_layPlans_240 ?_
      refine lv_iload hx hb dX11_layPlans_243 (lv_at hl 7 rfl) ?_
      refine lv_iload hx hb dX11_layPlans_245 (lv_at hl 0 rfl) ?_
      obtain ⟨g42, hf⟩ := gd_s hf
      refine va_iast hx hb hK hP hD hS 9 0 (f := sMo.2.2.1 23) a_Mo_23 rfl (vpb_in g42) dX11_layPlans_247 (fun H locs hP hD hS => ?_)
      have hP := cvP sa_Mo_23 hP
      have hD := cvD sa_Mo_23 hD
      obtain ⟨s43, es43⟩ : ∃ z, z = sA sMo 23 x6.toNatClampNeg (y0 + y1) := ⟨_, rfl⟩
      have hP : va_P D vwCl (wMo K hMo s43) H := by rw [es43]; exact hP
      have hD : va_D A (wMo K hMo s43) := by rw [es43]; exact hD
      have hf := lz_s hf s43 es43
      refine lv_aload_n hx hb dX11_layPlans_248 rfl (lv_at hl 1 rfl) ?_
      refine va_get (D := D) (ci := 10) (v := .ref (hMo 24)) (C := RX11) (T := TX11) (N := 41) hx hb hts iX11 hown hK hP 0 o_Mo rfl 24 (by decide) (htl _ (mB6 _ (List.mem_of_getElem? (i := 10) rfl))) (fun _ h9 => h9) rfl dX11_layPlans_249 ?_
      refine lv_iload hx hb dX11_layPlans_252 (lv_at hl 7 rfl) ?_
      refine lv_iload hx hb dX11_layPlans_254 (lv_at hl 8 rfl) ?_
      obtain ⟨g44, hf⟩ := gd_s hf
      refine va_iast hx hb hK hP hD hS 10 0 (f := s43.2.2.1 24) a_Mo_24 rfl (vpb_in g44) dX11_layPlans_256 (fun H locs hP hD hS => ?_)
      have hP := cvP sa_Mo_24 hP
      have hD := cvD sa_Mo_24 hD
      obtain ⟨s45, es45⟩ : ∃ z, z = sA s43 24 x6.toNatClampNeg x7 := ⟨_, rfl⟩
      have hP : va_P D vwCl (wMo K hMo s45) H := by rw [es45]; exact hP
      have hD : va_D A (wMo K hMo s45) := by rw [es45]; exact hD
      have hf := lz_s hf s45 es45
      exact w257 k108 hk108 x3 x4 x5 x6 x7 s45 H locs ls hf hP hD hS (lv_sub hl [1, 2, 3, 4, 5, 6, 7, 8] rfl)
    · have hf := it_f hf c41
      refine lv_goto (tgt := 257) hx hb dX11_layPlans_236 (by decide) ?_
      exact w257 k108 hk108 x3 x4 x5 x6 x7 sMo H locs ls hf hP hD hS (lv_sub hl [1, 2, 3, 4, 5, 6, 7, 8] rfl)
  have w132 : ∀ (k108 : Int32 → Int32 → Int32 → Int32 → Int32 → MS → Option MS), (∀ (x3 : Int32), ∀ (x4 : Int32), ∀ (x5 : Int32), ∀ (x6 : Int32), ∀ (x7 : Int32), ∀ (sMo : MS), ∀ (H : Heap) (locs : List Loc) (ls : Array Slot), k108 x3 x4 x5 x6 x7 sMo = some res → va_P D vwCl (wMo K hMo sMo) H → va_D A (wMo K hMo sMo) → va_S A s.heap H locs → lv_has ls 10 [(0, .ref (hMo 99)), (1, .int p1), (2, .int p2), (3, .int x3), (4, .int x4), (5, .int x5), (6, .int x6), (7, .int x7)] → W p l e (headSpec wz_X11_layPlans r_X11_layPlans).room s m args below meth c H locs 0 0 Q (F0 m 108 ls [])) → ∀ (x3 : Int32), ∀ (x4 : Int32), ∀ (x5 : Int32), ∀ (x6 : Int32), ∀ (x7 : Int32), ∀ (sMo : MS), ∀ (H : Heap) (locs : List Loc) (ls : Array Slot), f_X11_layPlans_132 F p1 p2 k108 x3 x4 x5 x6 x7 sMo = some res → va_P D vwCl (wMo K hMo sMo) H → va_D A (wMo K hMo sMo) → va_S A s.heap H locs → lv_has ls 10 [(0, .ref (hMo 99)), (1, .int p1), (2, .int p2), (3, .int x3), (4, .int x4), (5, .int x5), (6, .int x6), (7, .int x7)] → W p l e (headSpec wz_X11_layPlans r_X11_layPlans).room s m args below meth c H locs 0 0 Q (F0 m 132 ls []) := by
    intro k108 hk108 x3 x4 x5 x6 x7 sMo H locs ls hf hP hD hS hl
    unfold f_X11_layPlans_132 at hf
    refine lv_iload hx hb dX11_layPlans_132 (lv_at hl 5 rfl) ?_
    refine lv_iload hx hb dX11_layPlans_134 (lv_at hl 7 rfl) ?_
    refine lv_iadd hx hb dX11_layPlans_136 ?_
    refine lv_aload_n hx hb dX11_layPlans_137 rfl (lv_at hl 0 rfl) ?_
    refine lv_iload_n hx hb dX11_layPlans_138 rfl (lv_at hl 3 rfl) ?_
    obtain ⟨o26, go26, hf⟩ := bd_s hf
    refine ro_Vi (As := [.int x3]) (rest := [.int (x5 + x7)]) ⟨hx, hb, hml, hown, hts⟩ (c_X11_leg l D K F hMo sMo x3 o26 go26) (cwV 1 hts (gcV_X11_leg (mB27 _ (List.mem_of_getElem? (i := 15) rfl))) rfl rfl rfl hdV_X11_leg ⟨Nat.le_of_ble_eq_true rfl, Nat.le_of_ble_eq_true rfl⟩) hK hP hS hP (va_recv hK hP (ci := 10) (q0 := 0) rfl o_Mo) rfl hl.1 rfl (Nat.le_of_ble_eq_true rfl) dX11_layPlans_139 ⟨Nat.zero_le _, Nat.zero_le _⟩ (fun H locs hP hS => ?_)
    refine lv_isub hx hb dX11_layPlans_142 ?_
    refine lv_istore (lv' := [(8, .int ((x5 + x7) - o26)), (0, .ref (hMo 99)), (1, .int p1), (2, .int p2), (3, .int x3), (4, .int x4), (5, .int x5), (6, .int x6), (7, .int x7)]) hx hb dX11_layPlans_143 hl (by decide) rfl (fun ls hl => ?_)
    refine lv_iload hx hb dX11_layPlans_145 (lv_at hl 0 rfl) ?_
    refine lv_if_lt (tgt := 257) hx hb dX11_layPlans_147 (by decide) (fun c27 => ?_) (fun c27 => ?_)
    · have hf := it_t hf c27
      exact w257 k108 hk108 x3 x4 x5 x6 x7 sMo H locs ls hf hP hD hS (lv_sub hl [1, 2, 3, 4, 5, 6, 7, 8] rfl)
    · have hf := it_f hf c27
      refine lv_aload_n hx hb dX11_layPlans_150 rfl (lv_at hl 1 rfl) ?_
      refine va_get (D := D) (ci := 10) (v := .ref (hMo 23)) (C := RX11) (T := TX11) (N := 41) hx hb hts iX11 hown hK hP 0 o_Mo rfl 23 (by decide) (htl _ (mB6 _ (List.mem_of_getElem? (i := 9) rfl))) (fun _ h9 => h9) rfl dX11_layPlans_151 ?_
      refine lv_iload hx hb dX11_layPlans_154 (lv_at hl 7 rfl) ?_
      refine lv_bipush (v := (41 : Int32)) hx hb dX11_layPlans_156 (by decide) ?_
      refine lv_iadd hx hb dX11_layPlans_158 ?_
      refine lv_iload hx hb dX11_layPlans_159 (lv_at hl 0 rfl) ?_
      refine lv_iadd hx hb dX11_layPlans_161 ?_
      refine lv_iload hx hb dX11_layPlans_162 (lv_at hl 6 rfl) ?_
      refine lv_isub hx hb dX11_layPlans_164 ?_
      obtain ⟨g28, hf⟩ := gd_s hf
      refine va_iald hx hb hK hP 9 0 (f := sMo.2.2.1 23) a_Mo_23 rfl (vpb_in g28) dX11_layPlans_165 ?_
      refine lv_topi (fun v29 ev29 => ?_)
      have hf := lz_s hf v29 ev29
      refine lv_ldcw (v := (1000000000 : Int32)) hx hb hown (htl _ (mB33 _ (List.mem_of_getElem? (i := 17) rfl))) dX11_layPlans_166 ?_
      refine lv_icmp_ne (tgt := 175) hx hb dX11_layPlans_169 (by decide) (fun c30 => ?_) (fun c30 => ?_)
      · have hf := it_f hf c30
        refine lv_aload_n hx hb dX11_layPlans_175 rfl (lv_at hl 1 rfl) ?_
        refine va_get (D := D) (ci := 10) (v := .ref (hMo 23)) (C := RX11) (T := TX11) (N := 41) hx hb hts iX11 hown hK hP 0 o_Mo rfl 23 (by decide) (htl _ (mB6 _ (List.mem_of_getElem? (i := 9) rfl))) (fun _ h9 => h9) rfl dX11_layPlans_176 ?_
        refine lv_bipush (v := (41 : Int32)) hx hb dX11_layPlans_179 (by decide) ?_
        refine lv_iload_n hx hb dX11_layPlans_181 rfl (lv_at hl 4 rfl) ?_
        refine lv_iconst (v := (1 : Int32)) hx hb dX11_layPlans_182 (by decide) ?_
        refine lv_iadd hx hb dX11_layPlans_183 ?_
        refine lv_imul hx hb dX11_layPlans_184 ?_
        refine lv_iload hx hb dX11_layPlans_185 (lv_at hl 0 rfl) ?_
        refine lv_iadd hx hb dX11_layPlans_187 ?_
        refine lv_topi (fun v31 ev31 => ?_)
        have hf := lz_s hf v31 ev31
        obtain ⟨g32, hf⟩ := gd_s hf
        refine va_iald hx hb hK hP 9 0 (f := sMo.2.2.1 23) a_Mo_23 rfl (vpb_in g32) dX11_layPlans_188 ?_
        refine lv_topi (fun v33 ev33 => ?_)
        have hf := lz_s hf v33 ev33
        refine lv_iload hx hb dX11_layPlans_189 (lv_at hl 8 rfl) ?_
        refine lv_if_ne (tgt := 198) hx hb dX11_layPlans_191 (by decide) (fun c34 => ?_) (fun c34 => ?_)
        · have hf := it_f hf c34
          refine lv_iload_n hx hb dX11_layPlans_198 rfl (lv_at hl 2 rfl) ?_
          refine lv_if_eq (tgt := 206) hx hb dX11_layPlans_199 (by decide) (fun c35 => ?_) (fun c35 => ?_)
          · have hf := it_t hf c35
            refine lv_iload hx hb dX11_layPlans_206 (lv_at hl 8 rfl) ?_
            refine lv_aload_n hx hb dX11_layPlans_208 rfl (lv_at hl 1 rfl) ?_
            refine lv_iload_n hx hb dX11_layPlans_209 rfl (lv_at hl 4 rfl) ?_
            obtain ⟨o36, go36, hf⟩ := bd_s hf
            refine ro_Vi (As := [.int x3]) (rest := [.int x7, .int v33]) ⟨hx, hb, hml, hown, hts⟩ (c_X11_priceAt l D K F hMo sMo x3 o36 go36) (cwV 1 hts (gcV_X11_priceAt (mB31 _ (List.mem_of_getElem? (i := 0) rfl))) rfl rfl rfl hdV_X11_priceAt ⟨Nat.le_of_ble_eq_true rfl, Nat.le_of_ble_eq_true rfl⟩) hK hP hS hP (va_recv hK hP (ci := 10) (q0 := 0) rfl o_Mo) rfl hl.1 rfl (Nat.le_of_ble_eq_true rfl) dX11_layPlans_210 ⟨Nat.zero_le _, Nat.zero_le _⟩ (fun H locs hP hS => ?_)
            refine lv_imul hx hb dX11_layPlans_213 ?_
            refine lv_aload_n hx hb dX11_layPlans_214 rfl (lv_at hl 1 rfl) ?_
            refine va_get (D := D) (ci := 10) (v := .ref (hMo 15)) (C := RX11) (T := TX11) (N := 41) hx hb hts iX11 hown hK hP 0 o_Mo rfl 15 (by decide) (htl _ (mB6 _ (List.mem_of_getElem? (i := 3) rfl))) (fun _ h9 => h9) rfl dX11_layPlans_215 ?_
            refine lv_iconst (v := (2 : Int32)) hx hb dX11_layPlans_218 (by decide) ?_
            obtain ⟨g37, hf⟩ := gd_s hf
            refine va_iald hx hb hK hP 3 0 (f := sMo.2.2.1 15) a_Mo_15 rfl (vpb_in g37) dX11_layPlans_219 ?_
            refine lv_topi (fun v38 ev38 => ?_)
            have hf := lz_s hf v38 ev38
            refine lv_iadd hx hb dX11_layPlans_220 ?_
            exact w221 k108 hk108 x3 x4 x5 x6 x7 v33 ((x7 * o36) + v38) sMo H locs ls hf hP hD hS (lv_sub hl [1, 2, 3, 4, 5, 6, 7, 8] rfl)
          · have hf := it_f hf c35
            refine lv_iconst (v := (1 : Int32)) hx hb dX11_layPlans_202 (by decide) ?_
            refine lv_goto (tgt := 221) hx hb dX11_layPlans_203 (by decide) ?_
            exact w221 k108 hk108 x3 x4 x5 x6 x7 v33 (1 : Int32) sMo H locs ls hf hP hD hS (lv_sub hl [1, 2, 3, 4, 5, 6, 7, 8] rfl)
        · have hf := it_t hf c34
          refine lv_iconst (v := (0 : Int32)) hx hb dX11_layPlans_194 (by decide) ?_
          refine lv_goto (tgt := 221) hx hb dX11_layPlans_195 (by decide) ?_
          exact w221 k108 hk108 x3 x4 x5 x6 x7 v33 (0 : Int32) sMo H locs ls hf hP hD hS (lv_sub hl [1, 2, 3, 4, 5, 6, 7, 8] rfl)
      · have hf := it_t hf c30
        refine lv_goto (tgt := 257) hx hb dX11_layPlans_172 (by decide) ?_
        exact w257 k108 hk108 x3 x4 x5 x6 x7 sMo H locs ls hf hP hD hS (lv_sub hl [1, 2, 3, 4, 5, 6, 7, 8] rfl)
  have w108 : ∀ (k67 : Int32 → Int32 → Int32 → MS → Option MS), (∀ (x3 : Int32), ∀ (x4 : Int32), ∀ (x5 : Int32), ∀ (sMo : MS), ∀ (H : Heap) (locs : List Loc) (ls : Array Slot), k67 x3 x4 x5 sMo = some res → va_P D vwCl (wMo K hMo sMo) H → va_D A (wMo K hMo sMo) → va_S A s.heap H locs → lv_has ls 10 [(0, .ref (hMo 99)), (1, .int p1), (2, .int p2), (3, .int x3), (4, .int x4), (5, .int x5)] → W p l e (headSpec wz_X11_layPlans r_X11_layPlans).room s m args below meth c H locs 0 0 Q (F0 m 67 ls [])) → ∀ (n : Nat), ∀ (x3 : Int32), ∀ (x4 : Int32), ∀ (x5 : Int32), ∀ (x6 : Int32), ∀ (x7 : Int32), ∀ (sMo : MS), ∀ (H : Heap) (locs : List Loc) (ls : Array Slot), f_X11_layPlans_108 F p1 p2 k67 n x3 x4 x5 x6 x7 sMo = some res → va_P D vwCl (wMo K hMo sMo) H → va_D A (wMo K hMo sMo) → va_S A s.heap H locs → lv_has ls 10 [(0, .ref (hMo 99)), (1, .int p1), (2, .int p2), (3, .int x3), (4, .int x4), (5, .int x5), (6, .int x6), (7, .int x7)] → W p l e (headSpec wz_X11_layPlans r_X11_layPlans).room s m args below meth c H locs 0 0 Q (F0 m 108 ls []) := by
    intro k67 hk67 n
    induction n with
    | zero =>
      intro x3 x4 x5 x6 x7 sMo H locs ls hf
      exact absurd (show none = some res from hf) (fun h => nomatch h)
    | succ n ih =>
      intro x3 x4 x5 x6 x7 sMo H locs ls hf hP hD hS hl
      rw [f_X11_layPlans_108] at hf
      refine lv_iload hx hb dX11_layPlans_108 (lv_at hl 5 rfl) ?_
      refine lv_iload hx hb dX11_layPlans_110 (lv_at hl 7 rfl) ?_
      refine lv_iadd hx hb dX11_layPlans_112 ?_
      refine lv_aload_n hx hb dX11_layPlans_113 rfl (lv_at hl 0 rfl) ?_
      refine va_get (D := D) (ci := 10) (v := .ref (hMo 15)) (C := RX11) (T := TX11) (N := 41) hx hb hts iX11 hown hK hP 0 o_Mo rfl 15 (by decide) (htl _ (mB6 _ (List.mem_of_getElem? (i := 3) rfl))) (fun _ h9 => h9) rfl dX11_layPlans_114 ?_
      refine lv_iconst (v := (0 : Int32)) hx hb dX11_layPlans_117 (by decide) ?_
      obtain ⟨g21, hf⟩ := gd_s hf
      refine va_iald hx hb hK hP 3 0 (f := sMo.2.2.1 15) a_Mo_15 rfl (vpb_in g21) dX11_layPlans_118 ?_
      refine lv_topi (fun v22 ev22 => ?_)
      have hf := lz_s hf v22 ev22
      refine lv_icmp_gt (tgt := 263) hx hb dX11_layPlans_119 (by decide) (fun c23 => ?_) (fun c23 => ?_)
      · have hf := it_t hf c23
        exact w263 k67 hk67 x3 x4 x5 sMo H locs ls hf hP hD hS (lv_sub hl [0, 1, 2, 3, 4, 5] rfl)
      · have hf := it_f hf c23
        refine lv_iload hx hb dX11_layPlans_122 (lv_at hl 7 rfl) ?_
        refine lv_if_eq (tgt := 132) hx hb dX11_layPlans_124 (by decide) (fun c24 => ?_) (fun c24 => ?_)
        · have hf := it_t hf c24
          exact w132 (f_X11_layPlans_108 F p1 p2 k67 n) ih x3 x4 x5 x6 x7 sMo H locs ls hf hP hD hS (lv_sub hl [0, 1, 2, 3, 4, 5, 6, 7] rfl)
        · have hf := it_f hf c24
          refine lv_iload hx hb dX11_layPlans_127 (lv_at hl 4 rfl) ?_
          refine lv_if_eq (tgt := 263) hx hb dX11_layPlans_129 (by decide) (fun c25 => ?_) (fun c25 => ?_)
          · have hf := it_t hf c25
            exact w263 k67 hk67 x3 x4 x5 sMo H locs ls hf hP hD hS (lv_sub hl [0, 1, 2, 3, 4, 5] rfl)
          · have hf := it_f hf c25
            exact w132 (f_X11_layPlans_108 F p1 p2 k67 n) ih x3 x4 x5 x6 x7 sMo H locs ls hf hP hD hS (lv_sub hl [0, 1, 2, 3, 4, 5, 6, 7] rfl)
  have w67 : ∀ (k40 : Int32 → MS → Option MS), (∀ (x3 : Int32), ∀ (sMo : MS), ∀ (H : Heap) (locs : List Loc) (ls : Array Slot), k40 x3 sMo = some res → va_P D vwCl (wMo K hMo sMo) H → va_D A (wMo K hMo sMo) → va_S A s.heap H locs → lv_has ls 10 [(0, .ref (hMo 99)), (1, .int p1), (2, .int p2), (3, .int x3)] → W p l e (headSpec wz_X11_layPlans r_X11_layPlans).room s m args below meth c H locs 0 0 Q (F0 m 40 ls [])) → ∀ (n : Nat), ∀ (x3 : Int32), ∀ (x4 : Int32), ∀ (x5 : Int32), ∀ (sMo : MS), ∀ (H : Heap) (locs : List Loc) (ls : Array Slot), f_X11_layPlans_67 F p1 p2 k40 n x3 x4 x5 sMo = some res → va_P D vwCl (wMo K hMo sMo) H → va_D A (wMo K hMo sMo) → va_S A s.heap H locs → lv_has ls 10 [(0, .ref (hMo 99)), (1, .int p1), (2, .int p2), (3, .int x3), (4, .int x4), (5, .int x5)] → W p l e (headSpec wz_X11_layPlans r_X11_layPlans).room s m args below meth c H locs 0 0 Q (F0 m 67 ls []) := by
    intro k40 hk40 n
    induction n with
    | zero =>
      intro x3 x4 x5 sMo H locs ls hf
      exact absurd (show none = some res from hf) (fun h => nomatch h)
    | succ n ih =>
      intro x3 x4 x5 sMo H locs ls hf hP hD hS hl
      rw [f_X11_layPlans_67] at hf
      refine lv_iload hx hb dX11_layPlans_67 (lv_at hl 5 rfl) ?_
      refine lv_aload_n hx hb dX11_layPlans_69 rfl (lv_at hl 0 rfl) ?_
      refine va_get (D := D) (ci := 10) (v := .ref (hMo 15)) (C := RX11) (T := TX11) (N := 41) hx hb hts iX11 hown hK hP 0 o_Mo rfl 15 (by decide) (htl _ (mB6 _ (List.mem_of_getElem? (i := 3) rfl))) (fun _ h9 => h9) rfl dX11_layPlans_70 ?_
      refine lv_iconst (v := (0 : Int32)) hx hb dX11_layPlans_73 (by decide) ?_
      obtain ⟨g13, hf⟩ := gd_s hf
      refine va_iald hx hb hK hP 3 0 (f := sMo.2.2.1 15) a_Mo_15 rfl (vpb_in g13) dX11_layPlans_74 ?_
      refine lv_topi (fun v14 ev14 => ?_)
      have hf := lz_s hf v14 ev14
      refine lv_icmp_gt (tgt := 269) hx hb dX11_layPlans_75 (by decide) (fun c15 => ?_) (fun c15 => ?_)
      · have hf := it_t hf c15
        exact w269 k40 hk40 x3 sMo H locs ls hf hP hD hS (lv_sub hl [0, 1, 2, 3] rfl)
      · have hf := it_f hf c15
        refine lv_bipush (v := (41 : Int32)) hx hb dX11_layPlans_78 (by decide) ?_
        refine lv_iload_n hx hb dX11_layPlans_80 rfl (lv_at hl 3 rfl) ?_
        refine lv_imul hx hb dX11_layPlans_81 ?_
        refine lv_iload hx hb dX11_layPlans_82 (lv_at hl 5 rfl) ?_
        refine lv_iadd hx hb dX11_layPlans_84 ?_
        refine lv_topi (fun v16 ev16 => ?_)
        have hf := lz_s hf v16 ev16
        refine lv_istore (lv' := [(6, .int v16), (0, .ref (hMo 99)), (1, .int p1), (2, .int p2), (3, .int x3), (4, .int x4), (5, .int x5)]) hx hb dX11_layPlans_85 hl (by decide) rfl (fun ls hl => ?_)
        refine lv_aload_n hx hb dX11_layPlans_87 rfl (lv_at hl 1 rfl) ?_
        refine va_get (D := D) (ci := 10) (v := .ref (hMo 23)) (C := RX11) (T := TX11) (N := 41) hx hb hts iX11 hown hK hP 0 o_Mo rfl 23 (by decide) (htl _ (mB6 _ (List.mem_of_getElem? (i := 9) rfl))) (fun _ h9 => h9) rfl dX11_layPlans_88 ?_
        refine lv_iload hx hb dX11_layPlans_91 (lv_at hl 0 rfl) ?_
        refine lv_ldcw (v := (1000000000 : Int32)) hx hb hown (htl _ (mB33 _ (List.mem_of_getElem? (i := 17) rfl))) dX11_layPlans_93 ?_
        obtain ⟨g17, hf⟩ := gd_s hf
        refine va_iast hx hb hK hP hD hS 9 0 (f := sMo.2.2.1 23) a_Mo_23 rfl (vpb_in g17) dX11_layPlans_96 (fun H locs hP hD hS => ?_)
        have hP := cvP sa_Mo_23 hP
        have hD := cvD sa_Mo_23 hD
        obtain ⟨s18, es18⟩ : ∃ z, z = sA sMo 23 v16.toNatClampNeg (1000000000 : Int32) := ⟨_, rfl⟩
        have hP : va_P D vwCl (wMo K hMo s18) H := by rw [es18]; exact hP
        have hD : va_D A (wMo K hMo s18) := by rw [es18]; exact hD
        have hf := lz_s hf s18 es18
        refine lv_aload_n hx hb dX11_layPlans_97 rfl (lv_at hl 1 rfl) ?_
        refine va_get (D := D) (ci := 10) (v := .ref (hMo 24)) (C := RX11) (T := TX11) (N := 41) hx hb hts iX11 hown hK hP 0 o_Mo rfl 24 (by decide) (htl _ (mB6 _ (List.mem_of_getElem? (i := 10) rfl))) (fun _ h9 => h9) rfl dX11_layPlans_98 ?_
        refine lv_iload hx hb dX11_layPlans_101 (lv_at hl 0 rfl) ?_
        refine lv_iconst (v := (0 : Int32)) hx hb dX11_layPlans_103 (by decide) ?_
        obtain ⟨g19, hf⟩ := gd_s hf
        refine va_iast hx hb hK hP hD hS 10 0 (f := s18.2.2.1 24) a_Mo_24 rfl (vpb_in g19) dX11_layPlans_104 (fun H locs hP hD hS => ?_)
        have hP := cvP sa_Mo_24 hP
        have hD := cvD sa_Mo_24 hD
        obtain ⟨s20, es20⟩ : ∃ z, z = sA s18 24 v16.toNatClampNeg (0 : Int32) := ⟨_, rfl⟩
        have hP : va_P D vwCl (wMo K hMo s20) H := by rw [es20]; exact hP
        have hD : va_D A (wMo K hMo s20) := by rw [es20]; exact hD
        have hf := lz_s hf s20 es20
        refine lv_iconst (v := (0 : Int32)) hx hb dX11_layPlans_105 (by decide) ?_
        refine lv_istore (lv' := [(7, .int (0 : Int32)), (6, .int v16), (0, .ref (hMo 99)), (1, .int p1), (2, .int p2), (3, .int x3), (4, .int x4), (5, .int x5)]) hx hb dX11_layPlans_106 hl (by decide) rfl (fun ls hl => ?_)
        exact w108 (f_X11_layPlans_67 F p1 p2 k40 n) ih F x3 x4 x5 v16 (0 : Int32) s20 H locs ls hf hP hD hS (lv_sub hl [2, 3, 4, 5, 6, 7, 1, 0] rfl)
  have w62 : ∀ (k40 : Int32 → MS → Option MS), (∀ (x3 : Int32), ∀ (sMo : MS), ∀ (H : Heap) (locs : List Loc) (ls : Array Slot), k40 x3 sMo = some res → va_P D vwCl (wMo K hMo sMo) H → va_D A (wMo K hMo sMo) → va_S A s.heap H locs → lv_has ls 10 [(0, .ref (hMo 99)), (1, .int p1), (2, .int p2), (3, .int x3)] → W p l e (headSpec wz_X11_layPlans r_X11_layPlans).room s m args below meth c H locs 0 0 Q (F0 m 40 ls [])) → ∀ (x3 : Int32), ∀ (y0 : Int32), ∀ (sMo : MS), ∀ (H : Heap) (locs : List Loc) (ls : Array Slot), f_X11_layPlans_62 F p1 p2 k40 x3 y0 sMo = some res → va_P D vwCl (wMo K hMo sMo) H → va_D A (wMo K hMo sMo) → va_S A s.heap H locs → lv_has ls 10 [(0, .ref (hMo 99)), (1, .int p1), (2, .int p2), (3, .int x3)] → W p l e (headSpec wz_X11_layPlans r_X11_layPlans).room s m args below meth c H locs 0 0 Q (F0 m 62 ls [.int y0]) := by
    intro k40 hk40 x3 y0 sMo H locs ls hf hP hD hS hl
    unfold f_X11_layPlans_62 at hf
    refine lv_istore (lv' := [(4, .int y0), (0, .ref (hMo 99)), (1, .int p1), (2, .int p2), (3, .int x3)]) hx hb dX11_layPlans_62 hl (by decide) rfl (fun ls hl => ?_)
    refine lv_iconst (v := (0 : Int32)) hx hb dX11_layPlans_64 (by decide) ?_
    refine lv_istore (lv' := [(5, .int (0 : Int32)), (4, .int y0), (0, .ref (hMo 99)), (1, .int p1), (2, .int p2), (3, .int x3)]) hx hb dX11_layPlans_65 hl (by decide) rfl (fun ls hl => ?_)
    exact w67 k40 hk40 F x3 y0 (0 : Int32) sMo H locs ls hf hP hD hS (lv_sub hl [2, 3, 4, 5, 1, 0] rfl)
  have w61 : ∀ (k40 : Int32 → MS → Option MS), (∀ (x3 : Int32), ∀ (sMo : MS), ∀ (H : Heap) (locs : List Loc) (ls : Array Slot), k40 x3 sMo = some res → va_P D vwCl (wMo K hMo sMo) H → va_D A (wMo K hMo sMo) → va_S A s.heap H locs → lv_has ls 10 [(0, .ref (hMo 99)), (1, .int p1), (2, .int p2), (3, .int x3)] → W p l e (headSpec wz_X11_layPlans r_X11_layPlans).room s m args below meth c H locs 0 0 Q (F0 m 40 ls [])) → ∀ (x3 : Int32), ∀ (sMo : MS), ∀ (H : Heap) (locs : List Loc) (ls : Array Slot), f_X11_layPlans_61 F p1 p2 k40 x3 sMo = some res → va_P D vwCl (wMo K hMo sMo) H → va_D A (wMo K hMo sMo) → va_S A s.heap H locs → lv_has ls 10 [(0, .ref (hMo 99)), (1, .int p1), (2, .int p2), (3, .int x3)] → W p l e (headSpec wz_X11_layPlans r_X11_layPlans).room s m args below meth c H locs 0 0 Q (F0 m 61 ls []) := by
    intro k40 hk40 x3 sMo H locs ls hf hP hD hS hl
    unfold f_X11_layPlans_61 at hf
    refine lv_iconst (v := (0 : Int32)) hx hb dX11_layPlans_61 (by decide) ?_
    exact w62 k40 hk40 x3 (0 : Int32) sMo H locs ls hf hP hD hS (lv_sub hl [0, 1, 2, 3] rfl)
  have w40 : ∀ (n : Nat), ∀ (x3 : Int32), ∀ (sMo : MS), ∀ (H : Heap) (locs : List Loc) (ls : Array Slot), f_X11_layPlans_40 F p1 p2 n x3 sMo = some res → va_P D vwCl (wMo K hMo sMo) H → va_D A (wMo K hMo sMo) → va_S A s.heap H locs → lv_has ls 10 [(0, .ref (hMo 99)), (1, .int p1), (2, .int p2), (3, .int x3)] → W p l e (headSpec wz_X11_layPlans r_X11_layPlans).room s m args below meth c H locs 0 0 Q (F0 m 40 ls []) := by
    intro n
    induction n with
    | zero =>
      intro x3 sMo H locs ls hf
      exact absurd (show none = some res from hf) (fun h => nomatch h)
    | succ n ih =>
      intro x3 sMo H locs ls hf hP hD hS hl
      rw [f_X11_layPlans_40] at hf
      refine lv_iload_n hx hb dX11_layPlans_40 rfl (lv_at hl 3 rfl) ?_
      refine lv_if_lt (tgt := 275) hx hb dX11_layPlans_41 (by decide) (fun c9 => ?_) (fun c9 => ?_)
      · have hf := it_t hf c9
        have e9 := Option.some.inj hf
        rw [hQ]
        exact W.vret hx hb hr (fun t ht hW => ⟨⟨sMo, rfl, e9, ⟨by rw [ht]; exact hP, va_K.moved hW.alike hK, hD⟩⟩, hS.F ht⟩) hS.2.2 dX11_layPlans_275
      · have hf := it_f hf c9
        refine lv_aload_n hx hb dX11_layPlans_44 rfl (lv_at hl 0 rfl) ?_
        refine lv_iload_n hx hb dX11_layPlans_45 rfl (lv_at hl 3 rfl) ?_
        obtain ⟨o10, go10, hf⟩ := bd_s hf
        refine ro_Vi (As := [.int x3]) (rest := []) ⟨hx, hb, hml, hown, hts⟩ (c_X11_priceAt l D K F hMo sMo x3 o10 go10) (cwV 1 hts (gcV_X11_priceAt (mB31 _ (List.mem_of_getElem? (i := 0) rfl))) rfl rfl rfl hdV_X11_priceAt ⟨Nat.le_of_ble_eq_true rfl, Nat.le_of_ble_eq_true rfl⟩) hK hP hS hP (va_recv hK hP (ci := 10) (q0 := 0) rfl o_Mo) rfl hl.1 rfl (Nat.le_of_ble_eq_true rfl) dX11_layPlans_46 ⟨Nat.zero_le _, Nat.zero_le _⟩ (fun H locs hP hS => ?_)
        refine lv_if_le (tgt := 61) hx hb dX11_layPlans_49 (by decide) (fun c11 => ?_) (fun c11 => ?_)
        · have hf := it_t hf c11
          exact w61 (f_X11_layPlans_40 F p1 p2 n) ih x3 sMo H locs ls hf hP hD hS (lv_sub hl [0, 1, 2, 3] rfl)
        · have hf := it_f hf c11
          refine lv_iload_n hx hb dX11_layPlans_52 rfl (lv_at hl 3 rfl) ?_
          refine lv_iload_n hx hb dX11_layPlans_53 rfl (lv_at hl 2 rfl) ?_
          refine lv_icmp_eq (tgt := 61) hx hb dX11_layPlans_54 (by decide) (fun c12 => ?_) (fun c12 => ?_)
          · have hf := it_t hf c12
            exact w61 (f_X11_layPlans_40 F p1 p2 n) ih x3 sMo H locs ls hf hP hD hS (lv_sub hl [0, 1, 2, 3] rfl)
          · have hf := it_f hf c12
            refine lv_iconst (v := (1 : Int32)) hx hb dX11_layPlans_57 (by decide) ?_
            refine lv_goto (tgt := 62) hx hb dX11_layPlans_58 (by decide) ?_
            exact w62 (f_X11_layPlans_40 F p1 p2 n) ih x3 (1 : Int32) sMo H locs ls hf hP hD hS (lv_sub hl [0, 1, 2, 3] rfl)
  have w33 : ∀ (sMo : MS), ∀ (H : Heap) (locs : List Loc) (ls : Array Slot), f_X11_layPlans_33 F p1 p2 sMo = some res → va_P D vwCl (wMo K hMo sMo) H → va_D A (wMo K hMo sMo) → va_S A s.heap H locs → lv_has ls 10 [(0, .ref (hMo 99)), (1, .int p1), (2, .int p2)] → W p l e (headSpec wz_X11_layPlans r_X11_layPlans).room s m args below meth c H locs 0 0 Q (F0 m 33 ls []) := by
    intro sMo H locs ls hf hP hD hS hl
    unfold f_X11_layPlans_33 at hf
    refine lv_aload_n hx hb dX11_layPlans_33 rfl (lv_at hl 0 rfl) ?_
    obtain ⟨o8, go8, hf⟩ := bd_s hf
    refine ro_Vi (As := []) (rest := []) ⟨hx, hb, hml, hown, hts⟩ (c_X11_lastStation l D K F hMo sMo o8 go8) (cwV 0 hts (gcV_X11_lastStation (mB28 _ (List.mem_of_getElem? (i := 11) rfl))) rfl rfl rfl hdV_X11_lastStation ⟨Nat.le_of_ble_eq_true rfl, Nat.le_of_ble_eq_true rfl⟩) hK hP hS hP (va_recv hK hP (ci := 10) (q0 := 0) rfl o_Mo) rfl hl.1 rfl (Nat.le_of_ble_eq_true rfl) dX11_layPlans_34 ⟨Nat.zero_le _, Nat.zero_le _⟩ (fun H locs hP hS => ?_)
    refine lv_iconst (v := (1 : Int32)) hx hb dX11_layPlans_37 (by decide) ?_
    refine lv_isub hx hb dX11_layPlans_38 ?_
    refine lv_istore_n (lv' := [(3, .int (o8 - (1 : Int32))), (0, .ref (hMo 99)), (1, .int p1), (2, .int p2)]) hx hb dX11_layPlans_39 rfl hl (by decide) rfl (fun ls hl => ?_)
    exact w40 F (o8 - (1 : Int32)) sMo H locs ls hf hP hD hS (lv_sub hl [1, 2, 3, 0] rfl)
  have w2 : ∀ (n : Nat), ∀ (x3 : Int32), ∀ (sMo : MS), ∀ (H : Heap) (locs : List Loc) (ls : Array Slot), f_X11_layPlans_2 F p1 p2 n x3 sMo = some res → va_P D vwCl (wMo K hMo sMo) H → va_D A (wMo K hMo sMo) → va_S A s.heap H locs → lv_has ls 10 [(0, .ref (hMo 99)), (1, .int p1), (2, .int p2), (3, .int x3)] → W p l e (headSpec wz_X11_layPlans r_X11_layPlans).room s m args below meth c H locs 0 0 Q (F0 m 2 ls []) := by
    intro n
    induction n with
    | zero =>
      intro x3 sMo H locs ls hf
      exact absurd (show none = some res from hf) (fun h => nomatch h)
    | succ n ih =>
      intro x3 sMo H locs ls hf hP hD hS hl
      rw [f_X11_layPlans_2] at hf
      refine lv_iload_n hx hb dX11_layPlans_2 rfl (lv_at hl 3 rfl) ?_
      refine lv_aload_n hx hb dX11_layPlans_3 rfl (lv_at hl 0 rfl) ?_
      refine va_get (D := D) (ci := 10) (v := .ref (hMo 15)) (C := RX11) (T := TX11) (N := 41) hx hb hts iX11 hown hK hP 0 o_Mo rfl 15 (by decide) (htl _ (mB6 _ (List.mem_of_getElem? (i := 3) rfl))) (fun _ h9 => h9) rfl dX11_layPlans_4 ?_
      refine lv_iconst (v := (0 : Int32)) hx hb dX11_layPlans_7 (by decide) ?_
      obtain ⟨g1, hf⟩ := gd_s hf
      refine va_iald hx hb hK hP 3 0 (f := sMo.2.2.1 15) a_Mo_15 rfl (vpb_in g1) dX11_layPlans_8 ?_
      refine lv_topi (fun v2 ev2 => ?_)
      have hf := lz_s hf v2 ev2
      refine lv_icmp_gt (tgt := 33) hx hb dX11_layPlans_9 (by decide) (fun c3 => ?_) (fun c3 => ?_)
      · have hf := it_t hf c3
        exact w33 sMo H locs ls hf hP hD hS (lv_sub hl [0, 1, 2] rfl)
      · have hf := it_f hf c3
        refine lv_aload_n hx hb dX11_layPlans_12 rfl (lv_at hl 0 rfl) ?_
        refine va_get (D := D) (ci := 10) (v := .ref (hMo 23)) (C := RX11) (T := TX11) (N := 41) hx hb hts iX11 hown hK hP 0 o_Mo rfl 23 (by decide) (htl _ (mB6 _ (List.mem_of_getElem? (i := 9) rfl))) (fun _ h9 => h9) rfl dX11_layPlans_13 ?_
        refine lv_bipush (v := (41 : Int32)) hx hb dX11_layPlans_16 (by decide) ?_
        refine lv_aload_n hx hb dX11_layPlans_18 rfl (lv_at hl 0 rfl) ?_
        obtain ⟨o4, go4, hf⟩ := bd_s hf
        refine ro_Vi (As := []) (rest := [.int (41 : Int32), .ref (hMo 23)]) ⟨hx, hb, hml, hown, hts⟩ (c_X11_lastStation l D K F hMo sMo o4 go4) (cwV 0 hts (gcV_X11_lastStation (mB28 _ (List.mem_of_getElem? (i := 11) rfl))) rfl rfl rfl hdV_X11_lastStation ⟨Nat.le_of_ble_eq_true rfl, Nat.le_of_ble_eq_true rfl⟩) hK hP hS hP (va_recv hK hP (ci := 10) (q0 := 0) rfl o_Mo) rfl hl.1 rfl (Nat.le_of_ble_eq_true rfl) dX11_layPlans_19 ⟨Nat.zero_le _, Nat.zero_le _⟩ (fun H locs hP hS => ?_)
        refine lv_imul hx hb dX11_layPlans_22 ?_
        refine lv_iload_n hx hb dX11_layPlans_23 rfl (lv_at hl 3 rfl) ?_
        refine lv_iadd hx hb dX11_layPlans_24 ?_
        refine lv_iconst (v := (0 : Int32)) hx hb dX11_layPlans_25 (by decide) ?_
        obtain ⟨g5, hf⟩ := gd_s hf
        refine va_iast hx hb hK hP hD hS 9 0 (f := sMo.2.2.1 23) a_Mo_23 rfl (vpb_in g5) dX11_layPlans_26 (fun H locs hP hD hS => ?_)
        have hP := cvP sa_Mo_23 hP
        have hD := cvD sa_Mo_23 hD
        obtain ⟨s6, es6⟩ : ∃ z, z = sA sMo 23 ((((41 : Int32) * o4) + x3).toNatClampNeg) (0 : Int32) := ⟨_, rfl⟩
        have hP : va_P D vwCl (wMo K hMo s6) H := by rw [es6]; exact hP
        have hD : va_D A (wMo K hMo s6) := by rw [es6]; exact hD
        have hf := lz_s hf s6 es6
        obtain ⟨v7, ev7⟩ : ∃ z : Int32, z = x3 + (1 : Int32) := ⟨_, rfl⟩
        have hf := lz_s hf v7 ev7
        refine lv_iinc (v := v7) (lv' := [(3, .int v7), (0, .ref (hMo 99)), (1, .int p1), (2, .int p2)]) hx hb dX11_layPlans_27 hl (k := 3) rfl (by rw [ev7]; rfl) (by decide) rfl (fun ls hl => ?_)
        refine lv_goto (tgt := 2) hx hb dX11_layPlans_30 (by decide) ?_
        exact ih v7 s6 H locs ls hf hP hD hS (lv_sub hl [1, 2, 3, 0] rfl)
  have hen : entryFrame m args 10 = entryFrame m (([.ref (hMo 99), .int p1, .int p2] : List Value).toArray) 10 := by rw [hargs]
  have hl := lv_entry ([.ref (hMo 99), .int p1, .int p2]) (n := 10) (Nat.le_of_ble_eq_true rfl)
  rw [hen, lg_entry_eq]
  generalize (lg_sl ([.ref (hMo 99), .int p1, .int p2]) ++ List.replicate (10 - (lg_sl ([.ref (hMo 99), .int p1, .int p2])).length) Slot.unset).toArray = ls at hl ⊢
  have hl : lv_has ls 10 [(0, .ref (hMo 99)), (1, .int p1), (2, .int p2)] := hl
  unfold f_X11_layPlans at hf
  obtain ⟨H, hHe⟩ : ∃ z, z = s.heap := ⟨_, rfl⟩
  obtain ⟨locs, hLe⟩ : ∃ z : List Loc, z = [] := ⟨_, rfl⟩
  rw [← hLe]
  have hS : va_S A s.heap H locs := by rw [hHe, hLe]; exact hS
  have hP : va_P D vwCl (wMo K hMo sMo) H := by rw [hHe]; exact hP
  have hgo : W p l e (headSpec wz_X11_layPlans r_X11_layPlans).room s m args below meth c H locs 0 0 Q (F0 m 0 ls []) := by
    refine lv_iconst (v := (0 : Int32)) hx hb dX11_layPlans_0 (by decide) ?_
    refine lv_istore_n (lv' := [(3, .int (0 : Int32)), (0, .ref (hMo 99)), (1, .int p1), (2, .int p2)]) hx hb dX11_layPlans_1 rfl hl (by decide) rfl (fun ls hl => ?_)
    exact w2 F (0 : Int32) sMo H locs ls hf hP hD hS (lv_sub hl [1, 2, 3, 0] rfl)
  rw [hHe] at hgo
  exact hgo

def wz_X11_leastFrom : List Cond := .code yX11_leastFrom cX11_leastFrom 2 (some .int) :: wsL_law
abbrev r_X11_leastFrom : Room := { frames := 0, cells := 0, slots := 0, locals := 0 }
set_option maxHeartbeats 4000000 in
set_option maxRecDepth 100000 in
theorem c_X11_leastFrom (l : Launch) (D : va_G) (K : Nat → ClassId) (F : Nat) (hMo : Nat → Nat) (sMo : MS) (p1 : Int32) (res : Int32) (hf : f_X11_leastFrom F sMo p1 = some res) : Met l yX11_leastFrom wz_X11_leastFrom r_X11_leastFrom (va_Pc [.ref (hMo 99), .int p1] (PR D K (wMo K hMo sMo))) (va_Qi (fun r (_ : Unit) => r = res) BN nOne) 0 0 nOne := by
  refine Met.ofW (cc := cX11_leastFrom) (maxL := 2) (ret := (some .int)) (by decide) rfl ?_
  intro p e s m args below meth c s₁ B hml hv
  obtain ⟨hargs, hP, hK⟩ := hv
  have hx := B.exec
  have hb := B.bytes
  have hr := B.returns
  have hts := atoms_spec (ws := wz_X11_leastFrom) B.pre
  have htl : ∀ w ∈ wsL_law, w.before args s = true := fun w h => hts w (List.mem_cons_of_mem _ h)
  have hown : s.vm.findClass RX11 = some m.cls := findClass_of_methodNamed B.named
  have hlocks := B.notSynchronized
  have hS : va_S nOne s.heap s.heap [] := va_S.rf
  have iX11 : ∀ w ∈ wsX110, w ∈ wz_X11_leastFrom := fun w h => List.mem_cons_of_mem _ (inlX11 w h)
  suffices hgo : ∀ Q : State → Prop, Q = MQ below (va_Qi (fun r (_ : Unit) => r = res) BN nOne) args s 0 0 nOne → W p l e (headSpec wz_X11_leastFrom r_X11_leastFrom).room s m args below meth c s.heap [] 0 0 Q (entryFrame m args 2) from hgo _ rfl
  intro Q hQ
  have hen : entryFrame m args 2 = entryFrame m (([.ref (hMo 99), .int p1] : List Value).toArray) 2 := by rw [hargs]
  have hl := lv_entry ([.ref (hMo 99), .int p1]) (n := 2) (Nat.le_of_ble_eq_true rfl)
  rw [hen, lg_entry_eq]
  generalize (lg_sl ([.ref (hMo 99), .int p1]) ++ List.replicate (2 - (lg_sl ([.ref (hMo 99), .int p1])).length) Slot.unset).toArray = ls at hl ⊢
  have hl : lv_has ls 2 [(0, .ref (hMo 99)), (1, .int p1)] := hl
  unfold f_X11_leastFrom at hf
  obtain ⟨H, hHe⟩ : ∃ z, z = s.heap := ⟨_, rfl⟩
  obtain ⟨locs, hLe⟩ : ∃ z : List Loc, z = [] := ⟨_, rfl⟩
  rw [← hLe]
  have hS : va_S nOne s.heap H locs := by rw [hHe, hLe]; exact hS
  have hP : va_P D vwCl (wMo K hMo sMo) H := by rw [hHe]; exact hP
  have hgo : W p l e (headSpec wz_X11_leastFrom r_X11_leastFrom).room s m args below meth c H locs 0 0 Q (F0 m 0 ls []) := by
    refine lv_aload_n hx hb dX11_leastFrom_0 rfl (lv_at hl 0 rfl) ?_
    refine va_get (D := D) (ci := 10) (v := .ref (hMo 23)) (C := RX11) (T := TX11) (N := 41) hx hb hts iX11 hown hK hP 0 o_Mo rfl 23 (by decide) (htl _ (mB6 _ (List.mem_of_getElem? (i := 9) rfl))) (fun _ h9 => h9) rfl dX11_leastFrom_1 ?_
    refine lv_iload_n hx hb dX11_leastFrom_4 rfl (lv_at hl 1 rfl) ?_
    obtain ⟨g1, hf⟩ := gd_s hf
    refine va_iald hx hb hK hP 9 0 (f := sMo.2.2.1 23) a_Mo_23 rfl (vpb_in g1) dX11_leastFrom_5 ?_
    refine lv_topi (fun v2 ev2 => ?_)
    have hf := lz_s hf v2 ev2
    refine lv_ldcw (v := (1000000000 : Int32)) hx hb hown (htl _ (mB33 _ (List.mem_of_getElem? (i := 17) rfl))) dX11_leastFrom_6 ?_
    refine lv_icmp_ne (tgt := 17) hx hb dX11_leastFrom_9 (by decide) (fun c3 => ?_) (fun c3 => ?_)
    · have hf := it_f hf c3
      refine lv_aload_n hx hb dX11_leastFrom_17 rfl (lv_at hl 0 rfl) ?_
      refine va_get (D := D) (ci := 10) (v := .ref (hMo 23)) (C := RX11) (T := TX11) (N := 41) hx hb hts iX11 hown hK hP 0 o_Mo rfl 23 (by decide) (htl _ (mB6 _ (List.mem_of_getElem? (i := 9) rfl))) (fun _ h9 => h9) rfl dX11_leastFrom_18 ?_
      refine lv_iload_n hx hb dX11_leastFrom_21 rfl (lv_at hl 1 rfl) ?_
      obtain ⟨g4, hf⟩ := gd_s hf
      refine va_iald hx hb hK hP 9 0 (f := sMo.2.2.1 23) a_Mo_23 rfl (vpb_in g4) dX11_leastFrom_22 ?_
      refine lv_topi (fun v5 ev5 => ?_)
      have hf := lz_s hf v5 ev5
      have e9 := Option.some.inj hf
      rw [hQ]
      exact W.iret (v := v5) hx hb hr (fun t ht hW => ⟨⟨v5, (), rfl, e9, trivial⟩, hS.F ht⟩) hS.2.2 dX11_leastFrom_23
    · have hf := it_t hf c3
      refine lv_bipush (v := (-2 : Int32)) hx hb dX11_leastFrom_12 (by decide) ?_
      refine lv_goto (tgt := 23) hx hb dX11_leastFrom_14 (by decide) ?_
      have e9 := Option.some.inj hf
      rw [hQ]
      exact W.iret (v := (-2 : Int32)) hx hb hr (fun t ht hW => ⟨⟨(-2 : Int32), (), rfl, e9, trivial⟩, hS.F ht⟩) hS.2.2 dX11_leastFrom_23
  rw [hHe] at hgo
  exact hgo

theorem gcV_X11_layPlans {T0 : Cond} {own : String} {i : Nat} (h : Cond.methodLink own i yX11_layPlans ∈ wsL_law) : GoodIn (T0 :: wsL_law) (wsV own i RX11 yX11_layPlans wz_X11_layPlans) := gV h (mB33 _ (List.mem_of_getElem? (i := 14) rfl)) (mB33 _ (List.mem_of_getElem? (i := 15) rfl)) (mB1 _ (List.mem_of_getElem? (i := 5) rfl)) (mB33 _ (List.mem_of_getElem? (i := 16) rfl))
theorem hdV_X11_layPlans : yX11_layPlans.cls = RX11 ∧ yX11_layPlans.cls ≠ "java/lang/invoke/MethodHandle" ∧ yX11_layPlans.cls ≠ "java/lang/invoke/VarHandle" ∧ (parseMethodDescriptor yX11_layPlans.desc).map (fun d => d.parameters.length) = some 2 := by decide +kernel
theorem gcV_X11_leastFrom {T0 : Cond} {own : String} {i : Nat} (h : Cond.methodLink own i yX11_leastFrom ∈ wsL_law) : GoodIn (T0 :: wsL_law) (wsV own i RX11 yX11_leastFrom wz_X11_leastFrom) := gV h (mB33 _ (List.mem_of_getElem? (i := 19) rfl)) (mB33 _ (List.mem_of_getElem? (i := 20) rfl)) (mB1 _ (List.mem_of_getElem? (i := 5) rfl)) (mB33 _ (List.mem_of_getElem? (i := 21) rfl))
theorem hdV_X11_leastFrom : yX11_leastFrom.cls = RX11 ∧ yX11_leastFrom.cls ≠ "java/lang/invoke/MethodHandle" ∧ yX11_leastFrom.cls ≠ "java/lang/invoke/VarHandle" ∧ (parseMethodDescriptor yX11_leastFrom.desc).map (fun d => d.parameters.length) = some 1 := by decide +kernel
def wz_X11_cheapest : List Cond := .code yX11_cheapest cX11_cheapest 1 (some .int) :: wsL_law
abbrev r_X11_cheapest : Room := { frames := 3, cells := 0, slots := 0, locals := 72 }
set_option maxHeartbeats 4000000 in
set_option maxRecDepth 100000 in
theorem c_X11_cheapest (l : Launch) (D : va_G) (K : Nat → ClassId) (F : Nat) (hMo : Nat → Nat) (sz : Nat) (sMo : MS) (res : Int32 × MS) (hf : f_X11_cheapest F sMo = some res) : Met l yX11_cheapest wz_X11_cheapest r_X11_cheapest (va_Pc [.ref (hMo 99)] (PW D K (wMo K hMo sMo) sz)) (va_Qi (fun r u => r = res.1 ∧ u = res.2) (fun u t => BW D K (va_A (wMo K hMo sMo) sz) (wMo K hMo u) t) (va_A (wMo K hMo sMo) sz)) 0 0 (va_A (wMo K hMo sMo) sz) := by
  refine Met.ofW (cc := cX11_cheapest) (maxL := 1) (ret := (some .int)) (by decide) rfl ?_
  intro p e s m args below meth c s₁ B hml hv
  obtain ⟨hargs, hsz, hP, hK, hD0⟩ := hv
  have hx := B.exec
  have hb := B.bytes
  have hr := B.returns
  have hts := atoms_spec (ws := wz_X11_cheapest) B.pre
  have htl : ∀ w ∈ wsL_law, w.before args s = true := fun w h => hts w (List.mem_cons_of_mem _ h)
  have hown : s.vm.findClass RX11 = some m.cls := findClass_of_methodNamed B.named
  have hlocks := B.notSynchronized
  subst hsz
  have hD := hD0.self (sz := s.heap.size)
  generalize hAe : va_A (wMo K hMo sMo) s.heap.size = A at hD ⊢
  have hA : ∀ q : Nat, s.heap.size ≤ q → A q := fun q h => by rw [← hAe]; exact Or.inr h
  have hS : va_S A s.heap s.heap [] := va_S.rf
  have iX11 : ∀ w ∈ wsX110, w ∈ wz_X11_cheapest := fun w h => List.mem_cons_of_mem _ (inlX11 w h)
  suffices hgo : ∀ Q : State → Prop, Q = MQ below (va_Qi (fun r u => r = res.1 ∧ u = res.2) (fun u t => BW D K A (wMo K hMo u) t) A) args s 0 0 A → W p l e (headSpec wz_X11_cheapest r_X11_cheapest).room s m args below meth c s.heap [] 0 0 Q (entryFrame m args 1) from hgo _ rfl
  intro Q hQ
  have hen : entryFrame m args 1 = entryFrame m (([.ref (hMo 99)] : List Value).toArray) 1 := by rw [hargs]
  have hl := lv_entry ([.ref (hMo 99)]) (n := 1) (Nat.le_of_ble_eq_true rfl)
  rw [hen, lg_entry_eq]
  generalize (lg_sl ([.ref (hMo 99)]) ++ List.replicate (1 - (lg_sl ([.ref (hMo 99)])).length) Slot.unset).toArray = ls at hl ⊢
  have hl : lv_has ls 1 [(0, .ref (hMo 99))] := hl
  unfold f_X11_cheapest at hf
  obtain ⟨H, hHe⟩ : ∃ z, z = s.heap := ⟨_, rfl⟩
  obtain ⟨locs, hLe⟩ : ∃ z : List Loc, z = [] := ⟨_, rfl⟩
  rw [← hLe]
  have hS : va_S A s.heap H locs := by rw [hHe, hLe]; exact hS
  have hP : va_P D vwCl (wMo K hMo sMo) H := by rw [hHe]; exact hP
  have hgo : W p l e (headSpec wz_X11_cheapest r_X11_cheapest).room s m args below meth c H locs 0 0 Q (F0 m 0 ls []) := by
    refine lv_aload_n hx hb dX11_cheapest_0 rfl (lv_at hl 0 rfl) ?_
    obtain ⟨o1, go1, hf⟩ := bd_s hf
    refine rs_Vv (As := []) (rest := []) ⟨hx, hb, hml, hown, hts⟩ (c_X11_good l D K F hMo H.size sMo o1 go1) (cwV 0 hts (gcV_X11_good (mB18 _ (List.mem_of_getElem? (i := 7) rfl))) rfl rfl rfl hdV_X11_good ⟨Nat.le_of_ble_eq_true rfl, Nat.le_of_ble_eq_true rfl⟩) hK hP hD hS hA (va_recv hK hP (ci := 10) (q0 := 0) rfl o_Mo) rfl hl.1 rfl (Nat.le_of_ble_eq_true rfl) dX11_cheapest_1 ⟨Nat.zero_le _, Nat.zero_le _⟩ (fun H locs hP hD hS => ?_)
    have hP : va_P D vwCl (wMo K hMo o1) H := hP
    have hD : va_D A (wMo K hMo o1) := hD
    refine lv_aload_n hx hb dX11_cheapest_4 rfl (lv_at hl 0 rfl) ?_
    refine va_get (D := D) (ci := 10) (v := .int (o1.1 14)) (C := RX11) (T := TX11) (N := 41) hx hb hts iX11 hown hK hP 0 o_Mo rfl 14 (by decide) (htl _ (mB18 _ (List.mem_of_getElem? (i := 4) rfl))) (fun _ h9 => h9) rfl dX11_cheapest_5 ?_
    refine lv_if_ne (tgt := 17) hx hb dX11_cheapest_8 (by decide) (fun c2 => ?_) (fun c2 => ?_)
    · have hf := it_f hf c2
      refine lv_aload_n hx hb dX11_cheapest_17 rfl (lv_at hl 0 rfl) ?_
      refine lv_iconst (v := (0 : Int32)) hx hb dX11_cheapest_18 (by decide) ?_
      refine lv_iconst (v := (-1 : Int32)) hx hb dX11_cheapest_19 (by decide) ?_
      obtain ⟨o3, go3, hf⟩ := bd_s hf
      refine rs_Vv (As := [.int (0 : Int32), .int (-1 : Int32)]) (rest := []) ⟨hx, hb, hml, hown, hts⟩ (c_X11_layPlans l D K F hMo H.size o1 (0 : Int32) (-1 : Int32) o3 go3) (cwV 2 hts (gcV_X11_layPlans (mB33 _ (List.mem_of_getElem? (i := 13) rfl))) rfl rfl rfl hdV_X11_layPlans ⟨Nat.le_of_ble_eq_true rfl, Nat.le_of_ble_eq_true rfl⟩) hK hP hD hS hA (va_recv hK hP (ci := 10) (q0 := 0) rfl o_Mo) rfl hl.1 rfl (Nat.le_of_ble_eq_true rfl) dX11_cheapest_20 ⟨Nat.zero_le _, Nat.zero_le _⟩ (fun H locs hP hD hS => ?_)
      have hP : va_P D vwCl (wMo K hMo o3) H := hP
      have hD : va_D A (wMo K hMo o3) := hD
      refine lv_aload_n hx hb dX11_cheapest_23 rfl (lv_at hl 0 rfl) ?_
      refine lv_aload_n hx hb dX11_cheapest_24 rfl (lv_at hl 0 rfl) ?_
      refine va_get (D := D) (ci := 10) (v := .ref (hMo 15)) (C := RX11) (T := TX11) (N := 41) hx hb hts iX11 hown hK hP 0 o_Mo rfl 15 (by decide) (htl _ (mB6 _ (List.mem_of_getElem? (i := 3) rfl))) (fun _ h9 => h9) rfl dX11_cheapest_25 ?_
      refine lv_iconst (v := (1 : Int32)) hx hb dX11_cheapest_28 (by decide) ?_
      obtain ⟨g4, hf⟩ := gd_s hf
      refine va_iald hx hb hK hP 3 0 (f := o3.2.2.1 15) a_Mo_15 rfl (vpb_in g4) dX11_cheapest_29 ?_
      refine lv_topi (fun v5 ev5 => ?_)
      have hf := lz_s hf v5 ev5
      obtain ⟨o6, go6, hf⟩ := bd_s hf
      refine ro_Vi (As := [.int v5]) (rest := []) ⟨hx, hb, hml, hown, hts⟩ (c_X11_leastFrom l D K F hMo o3 v5 o6 go6) (cwV 1 hts (gcV_X11_leastFrom (mB33 _ (List.mem_of_getElem? (i := 18) rfl))) rfl rfl rfl hdV_X11_leastFrom ⟨Nat.le_of_ble_eq_true rfl, Nat.le_of_ble_eq_true rfl⟩) hK hP hS hP (va_recv hK hP (ci := 10) (q0 := 0) rfl o_Mo) rfl hl.1 rfl (Nat.le_of_ble_eq_true rfl) dX11_cheapest_30 ⟨Nat.zero_le _, Nat.zero_le _⟩ (fun H locs hP hS => ?_)
      have e9 := Option.some.inj hf
      rw [hQ]
      exact W.iret (v := o6) hx hb hr (fun t ht hW => ⟨⟨o6, o3, rfl, ⟨pr1 e9, pr2 e9⟩, ⟨by rw [ht]; exact hP, va_K.moved hW.alike hK, hD⟩⟩, hS.F ht⟩) hS.2.2 dX11_cheapest_33
    · have hf := it_t hf c2
      refine lv_aload_n hx hb dX11_cheapest_11 rfl (lv_at hl 0 rfl) ?_
      refine lv_iconst (v := (1 : Int32)) hx hb dX11_cheapest_12 (by decide) ?_
      obtain ⟨o7, go7, hf⟩ := bd_s hf
      refine rs_Vi (As := [.int (1 : Int32)]) (rest := []) ⟨hx, hb, hml, hown, hts⟩ (c_X11_no l D K F hMo H.size o1 (1 : Int32) o7 go7) (cwV 1 hts (gcV_X11_no (mB18 _ (List.mem_of_getElem? (i := 15) rfl))) rfl rfl rfl hdV_X11_no ⟨Nat.le_of_ble_eq_true rfl, Nat.le_of_ble_eq_true rfl⟩) hK hP hD hS hA (va_recv hK hP (ci := 10) (q0 := 0) rfl o_Mo) rfl hl.1 rfl (Nat.le_of_ble_eq_true rfl) dX11_cheapest_13 ⟨Nat.zero_le _, Nat.zero_le _⟩ (fun H locs hP hD hS => ?_)
      have hP : va_P D vwCl (wMo K hMo o7.2) H := hP
      have hD : va_D A (wMo K hMo o7.2) := hD
      have e9 := Option.some.inj hf
      rw [hQ]
      exact W.iret (v := o7.1) hx hb hr (fun t ht hW => ⟨⟨o7.1, o7.2, rfl, ⟨pr1 e9, pr2 e9⟩, ⟨by rw [ht]; exact hP, va_K.moved hW.alike hK, hD⟩⟩, hS.F ht⟩) hS.2.2 dX11_cheapest_16
  rw [hHe] at hgo
  exact hgo

def wz_X11_how : List Cond := .code yX11_how cX11_how 4 (some .int) :: wsL_law
abbrev r_X11_how : Room := { frames := 3, cells := 0, slots := 0, locals := 72 }
set_option maxHeartbeats 4000000 in
set_option maxRecDepth 100000 in
theorem c_X11_how (l : Launch) (D : va_G) (K : Nat → ClassId) (F : Nat) (hMo : Nat → Nat) (sz : Nat) (sMo : MS) (p1 : Int32) (res : Int32 × MS) (hf : f_X11_how F p1 sMo = some res) : Met l yX11_how wz_X11_how r_X11_how (va_Pc [.ref (hMo 99), .int p1] (PW D K (wMo K hMo sMo) sz)) (va_Qi (fun r u => r = res.1 ∧ u = res.2) (fun u t => BW D K (va_A (wMo K hMo sMo) sz) (wMo K hMo u) t) (va_A (wMo K hMo sMo) sz)) 0 0 (va_A (wMo K hMo sMo) sz) := by
  refine Met.ofW (cc := cX11_how) (maxL := 4) (ret := (some .int)) (by decide) rfl ?_
  intro p e s m args below meth c s₁ B hml hv
  obtain ⟨hargs, hsz, hP, hK, hD0⟩ := hv
  have hx := B.exec
  have hb := B.bytes
  have hr := B.returns
  have hts := atoms_spec (ws := wz_X11_how) B.pre
  have htl : ∀ w ∈ wsL_law, w.before args s = true := fun w h => hts w (List.mem_cons_of_mem _ h)
  have hown : s.vm.findClass RX11 = some m.cls := findClass_of_methodNamed B.named
  have hlocks := B.notSynchronized
  subst hsz
  have hD := hD0.self (sz := s.heap.size)
  generalize hAe : va_A (wMo K hMo sMo) s.heap.size = A at hD ⊢
  have hA : ∀ q : Nat, s.heap.size ≤ q → A q := fun q h => by rw [← hAe]; exact Or.inr h
  have hS : va_S A s.heap s.heap [] := va_S.rf
  have iX11 : ∀ w ∈ wsX110, w ∈ wz_X11_how := fun w h => List.mem_cons_of_mem _ (inlX11 w h)
  suffices hgo : ∀ Q : State → Prop, Q = MQ below (va_Qi (fun r u => r = res.1 ∧ u = res.2) (fun u t => BW D K A (wMo K hMo u) t) A) args s 0 0 A → W p l e (headSpec wz_X11_how r_X11_how).room s m args below meth c s.heap [] 0 0 Q (entryFrame m args 4) from hgo _ rfl
  intro Q hQ
  have w82 : ∀ (x2 : Int32), ∀ (sMo : MS), ∀ (H : Heap) (locs : List Loc) (ls : Array Slot), f_X11_how_82 F p1 x2 sMo = some res → va_P D vwCl (wMo K hMo sMo) H → va_D A (wMo K hMo sMo) → va_S A s.heap H locs → lv_has ls 4 [(0, .ref (hMo 99)), (1, .int p1), (2, .int x2)] → W p l e (headSpec wz_X11_how r_X11_how).room s m args below meth c H locs 0 0 Q (F0 m 82 ls []) := by
    intro x2 sMo H locs ls hf hP hD hS hl
    unfold f_X11_how_82 at hf
    refine lv_aload_n hx hb dX11_how_82 rfl (lv_at hl 0 rfl) ?_
    refine va_get (D := D) (ci := 10) (v := .ref (hMo 24)) (C := RX11) (T := TX11) (N := 41) hx hb hts iX11 hown hK hP 0 o_Mo rfl 24 (by decide) (htl _ (mB6 _ (List.mem_of_getElem? (i := 10) rfl))) (fun _ h9 => h9) rfl dX11_how_83 ?_
    refine lv_bipush (v := (41 : Int32)) hx hb dX11_how_86 (by decide) ?_
    refine lv_iload_n hx hb dX11_how_88 rfl (lv_at hl 1 rfl) ?_
    refine lv_imul hx hb dX11_how_89 ?_
    refine lv_iload_n hx hb dX11_how_90 rfl (lv_at hl 2 rfl) ?_
    refine lv_iadd hx hb dX11_how_91 ?_
    obtain ⟨g17, hf⟩ := gd_s hf
    refine va_iald hx hb hK hP 10 0 (f := sMo.2.2.1 24) a_Mo_24 rfl (vpb_in g17) dX11_how_92 ?_
    refine lv_topi (fun v18 ev18 => ?_)
    have hf := lz_s hf v18 ev18
    have e9 := Option.some.inj hf
    rw [hQ]
    exact W.iret (v := v18) hx hb hr (fun t ht hW => ⟨⟨v18, sMo, rfl, ⟨pr1 e9, pr2 e9⟩, ⟨by rw [ht]; exact hP, va_K.moved hW.alike hK, hD⟩⟩, hS.F ht⟩) hS.2.2 dX11_how_93
  have w51 : ∀ (n : Nat), ∀ (x2 : Int32), ∀ (x3 : Int32), ∀ (sMo : MS), ∀ (H : Heap) (locs : List Loc) (ls : Array Slot), f_X11_how_51 F p1 n x2 x3 sMo = some res → va_P D vwCl (wMo K hMo sMo) H → va_D A (wMo K hMo sMo) → va_S A s.heap H locs → lv_has ls 4 [(0, .ref (hMo 99)), (1, .int p1), (2, .int x2), (3, .int x3)] → W p l e (headSpec wz_X11_how r_X11_how).room s m args below meth c H locs 0 0 Q (F0 m 51 ls []) := by
    intro n
    induction n with
    | zero =>
      intro x2 x3 sMo H locs ls hf
      exact absurd (show none = some res from hf) (fun h => nomatch h)
    | succ n ih =>
      intro x2 x3 sMo H locs ls hf hP hD hS hl
      rw [f_X11_how_51] at hf
      refine lv_iload_n hx hb dX11_how_51 rfl (lv_at hl 3 rfl) ?_
      refine lv_iload_n hx hb dX11_how_52 rfl (lv_at hl 1 rfl) ?_
      refine lv_icmp_ge (tgt := 82) hx hb dX11_how_53 (by decide) (fun c12 => ?_) (fun c12 => ?_)
      · have hf := it_t hf c12
        exact w82 x2 sMo H locs ls hf hP hD hS (lv_sub hl [0, 1, 2] rfl)
      · have hf := it_f hf c12
        refine lv_iload_n hx hb dX11_how_56 rfl (lv_at hl 2 rfl) ?_
        refine lv_aload_n hx hb dX11_how_57 rfl (lv_at hl 0 rfl) ?_
        refine va_get (D := D) (ci := 10) (v := .ref (hMo 24)) (C := RX11) (T := TX11) (N := 41) hx hb hts iX11 hown hK hP 0 o_Mo rfl 24 (by decide) (htl _ (mB6 _ (List.mem_of_getElem? (i := 10) rfl))) (fun _ h9 => h9) rfl dX11_how_58 ?_
        refine lv_bipush (v := (41 : Int32)) hx hb dX11_how_61 (by decide) ?_
        refine lv_iload_n hx hb dX11_how_63 rfl (lv_at hl 3 rfl) ?_
        refine lv_imul hx hb dX11_how_64 ?_
        refine lv_iload_n hx hb dX11_how_65 rfl (lv_at hl 2 rfl) ?_
        refine lv_iadd hx hb dX11_how_66 ?_
        obtain ⟨g13, hf⟩ := gd_s hf
        refine va_iald hx hb hK hP 10 0 (f := sMo.2.2.1 24) a_Mo_24 rfl (vpb_in g13) dX11_how_67 ?_
        refine lv_topi (fun v14 ev14 => ?_)
        have hf := lz_s hf v14 ev14
        refine lv_aload_n hx hb dX11_how_68 rfl (lv_at hl 0 rfl) ?_
        refine lv_iload_n hx hb dX11_how_69 rfl (lv_at hl 3 rfl) ?_
        obtain ⟨o15, go15, hf⟩ := bd_s hf
        refine ro_Vi (As := [.int x3]) (rest := [.int v14, .int x2]) ⟨hx, hb, hml, hown, hts⟩ (c_X11_leg l D K F hMo sMo x3 o15 go15) (cwV 1 hts (gcV_X11_leg (mB27 _ (List.mem_of_getElem? (i := 15) rfl))) rfl rfl rfl hdV_X11_leg ⟨Nat.le_of_ble_eq_true rfl, Nat.le_of_ble_eq_true rfl⟩) hK hP hS hP (va_recv hK hP (ci := 10) (q0 := 0) rfl o_Mo) rfl hl.1 rfl (Nat.le_of_ble_eq_true rfl) dX11_how_70 ⟨Nat.zero_le _, Nat.zero_le _⟩ (fun H locs hP hS => ?_)
        refine lv_isub hx hb dX11_how_73 ?_
        refine lv_iadd hx hb dX11_how_74 ?_
        refine lv_istore_n (lv' := [(2, .int (x2 + (v14 - o15))), (0, .ref (hMo 99)), (1, .int p1), (3, .int x3)]) hx hb dX11_how_75 rfl hl (by decide) rfl (fun ls hl => ?_)
        obtain ⟨v16, ev16⟩ : ∃ z : Int32, z = x3 + (1 : Int32) := ⟨_, rfl⟩
        have hf := lz_s hf v16 ev16
        refine lv_iinc (v := v16) (lv' := [(3, .int v16), (2, .int (x2 + (v14 - o15))), (0, .ref (hMo 99)), (1, .int p1)]) hx hb dX11_how_76 hl (k := 3) rfl (by rw [ev16]; rfl) (by decide) rfl (fun ls hl => ?_)
        refine lv_goto (tgt := 51) hx hb dX11_how_79 (by decide) ?_
        exact ih (x2 + (v14 - o15)) v16 sMo H locs ls hf hP hD hS (lv_sub hl [2, 3, 1, 0] rfl)
  have hen : entryFrame m args 4 = entryFrame m (([.ref (hMo 99), .int p1] : List Value).toArray) 4 := by rw [hargs]
  have hl := lv_entry ([.ref (hMo 99), .int p1]) (n := 4) (Nat.le_of_ble_eq_true rfl)
  rw [hen, lg_entry_eq]
  generalize (lg_sl ([.ref (hMo 99), .int p1]) ++ List.replicate (4 - (lg_sl ([.ref (hMo 99), .int p1])).length) Slot.unset).toArray = ls at hl ⊢
  have hl : lv_has ls 4 [(0, .ref (hMo 99)), (1, .int p1)] := hl
  unfold f_X11_how at hf
  obtain ⟨H, hHe⟩ : ∃ z, z = s.heap := ⟨_, rfl⟩
  obtain ⟨locs, hLe⟩ : ∃ z : List Loc, z = [] := ⟨_, rfl⟩
  rw [← hLe]
  have hS : va_S A s.heap H locs := by rw [hHe, hLe]; exact hS
  have hP : va_P D vwCl (wMo K hMo sMo) H := by rw [hHe]; exact hP
  have hgo : W p l e (headSpec wz_X11_how r_X11_how).room s m args below meth c H locs 0 0 Q (F0 m 0 ls []) := by
    refine lv_aload_n hx hb dX11_how_0 rfl (lv_at hl 0 rfl) ?_
    obtain ⟨o1, go1, hf⟩ := bd_s hf
    refine rs_Vv (As := []) (rest := []) ⟨hx, hb, hml, hown, hts⟩ (c_X11_good l D K F hMo H.size sMo o1 go1) (cwV 0 hts (gcV_X11_good (mB18 _ (List.mem_of_getElem? (i := 7) rfl))) rfl rfl rfl hdV_X11_good ⟨Nat.le_of_ble_eq_true rfl, Nat.le_of_ble_eq_true rfl⟩) hK hP hD hS hA (va_recv hK hP (ci := 10) (q0 := 0) rfl o_Mo) rfl hl.1 rfl (Nat.le_of_ble_eq_true rfl) dX11_how_1 ⟨Nat.zero_le _, Nat.zero_le _⟩ (fun H locs hP hD hS => ?_)
    have hP : va_P D vwCl (wMo K hMo o1) H := hP
    have hD : va_D A (wMo K hMo o1) := hD
    refine lv_aload_n hx hb dX11_how_4 rfl (lv_at hl 0 rfl) ?_
    refine lv_iload_n hx hb dX11_how_5 rfl (lv_at hl 1 rfl) ?_
    obtain ⟨o2, go2, hf⟩ := bd_s hf
    refine ro_Vi (As := [.int p1]) (rest := []) ⟨hx, hb, hml, hown, hts⟩ (c_X11_isStop l D K F hMo o1 p1 o2 go2) (cwV 1 hts (gcV_X11_isStop (mB29 _ (List.mem_of_getElem? (i := 12) rfl))) rfl rfl rfl hdV_X11_isStop ⟨Nat.le_of_ble_eq_true rfl, Nat.le_of_ble_eq_true rfl⟩) hK hP hS hP (va_recv hK hP (ci := 10) (q0 := 0) rfl o_Mo) rfl hl.1 rfl (Nat.le_of_ble_eq_true rfl) dX11_how_6 ⟨Nat.zero_le _, Nat.zero_le _⟩ (fun H locs hP hS => ?_)
    refine lv_if_ne (tgt := 18) hx hb dX11_how_9 (by decide) (fun c3 => ?_) (fun c3 => ?_)
    · have hf := it_f hf c3
      refine lv_aload_n hx hb dX11_how_18 rfl (lv_at hl 0 rfl) ?_
      refine lv_iconst (v := (0 : Int32)) hx hb dX11_how_19 (by decide) ?_
      refine lv_iconst (v := (-1 : Int32)) hx hb dX11_how_20 (by decide) ?_
      obtain ⟨o4, go4, hf⟩ := bd_s hf
      refine rs_Vv (As := [.int (0 : Int32), .int (-1 : Int32)]) (rest := []) ⟨hx, hb, hml, hown, hts⟩ (c_X11_layPlans l D K F hMo H.size o1 (0 : Int32) (-1 : Int32) o4 go4) (cwV 2 hts (gcV_X11_layPlans (mB33 _ (List.mem_of_getElem? (i := 13) rfl))) rfl rfl rfl hdV_X11_layPlans ⟨Nat.le_of_ble_eq_true rfl, Nat.le_of_ble_eq_true rfl⟩) hK hP hD hS hA (va_recv hK hP (ci := 10) (q0 := 0) rfl o_Mo) rfl hl.1 rfl (Nat.le_of_ble_eq_true rfl) dX11_how_21 ⟨Nat.zero_le _, Nat.zero_le _⟩ (fun H locs hP hD hS => ?_)
      have hP : va_P D vwCl (wMo K hMo o4) H := hP
      have hD : va_D A (wMo K hMo o4) := hD
      refine lv_aload_n hx hb dX11_how_24 rfl (lv_at hl 0 rfl) ?_
      refine lv_aload_n hx hb dX11_how_25 rfl (lv_at hl 0 rfl) ?_
      refine va_get (D := D) (ci := 10) (v := .ref (hMo 15)) (C := RX11) (T := TX11) (N := 41) hx hb hts iX11 hown hK hP 0 o_Mo rfl 15 (by decide) (htl _ (mB6 _ (List.mem_of_getElem? (i := 3) rfl))) (fun _ h9 => h9) rfl dX11_how_26 ?_
      refine lv_iconst (v := (1 : Int32)) hx hb dX11_how_29 (by decide) ?_
      obtain ⟨g5, hf⟩ := gd_s hf
      refine va_iald hx hb hK hP 3 0 (f := o4.2.2.1 15) a_Mo_15 rfl (vpb_in g5) dX11_how_30 ?_
      refine lv_topi (fun v6 ev6 => ?_)
      have hf := lz_s hf v6 ev6
      obtain ⟨o7, go7, hf⟩ := bd_s hf
      refine ro_Vi (As := [.int v6]) (rest := []) ⟨hx, hb, hml, hown, hts⟩ (c_X11_leastFrom l D K F hMo o4 v6 o7 go7) (cwV 1 hts (gcV_X11_leastFrom (mB33 _ (List.mem_of_getElem? (i := 18) rfl))) rfl rfl rfl hdV_X11_leastFrom ⟨Nat.le_of_ble_eq_true rfl, Nat.le_of_ble_eq_true rfl⟩) hK hP hS hP (va_recv hK hP (ci := 10) (q0 := 0) rfl o_Mo) rfl hl.1 rfl (Nat.le_of_ble_eq_true rfl) dX11_how_31 ⟨Nat.zero_le _, Nat.zero_le _⟩ (fun H locs hP hS => ?_)
      refine lv_bipush (v := (-2 : Int32)) hx hb dX11_how_34 (by decide) ?_
      refine lv_icmp_ne (tgt := 42) hx hb dX11_how_36 (by decide) (fun c8 => ?_) (fun c8 => ?_)
      · have hf := it_f hf c8
        refine lv_aload_n hx hb dX11_how_42 rfl (lv_at hl 0 rfl) ?_
        refine va_get (D := D) (ci := 10) (v := .ref (hMo 15)) (C := RX11) (T := TX11) (N := 41) hx hb hts iX11 hown hK hP 0 o_Mo rfl 15 (by decide) (htl _ (mB6 _ (List.mem_of_getElem? (i := 3) rfl))) (fun _ h9 => h9) rfl dX11_how_43 ?_
        refine lv_iconst (v := (1 : Int32)) hx hb dX11_how_46 (by decide) ?_
        obtain ⟨g9, hf⟩ := gd_s hf
        refine va_iald hx hb hK hP 3 0 (f := o4.2.2.1 15) a_Mo_15 rfl (vpb_in g9) dX11_how_47 ?_
        refine lv_topi (fun v10 ev10 => ?_)
        have hf := lz_s hf v10 ev10
        refine lv_istore_n (lv' := [(2, .int v10), (0, .ref (hMo 99)), (1, .int p1)]) hx hb dX11_how_48 rfl hl (by decide) rfl (fun ls hl => ?_)
        refine lv_iconst (v := (0 : Int32)) hx hb dX11_how_49 (by decide) ?_
        refine lv_istore_n (lv' := [(3, .int (0 : Int32)), (2, .int v10), (0, .ref (hMo 99)), (1, .int p1)]) hx hb dX11_how_50 rfl hl (by decide) rfl (fun ls hl => ?_)
        exact w51 F v10 (0 : Int32) o4 H locs ls hf hP hD hS (lv_sub hl [2, 3, 1, 0] rfl)
      · have hf := it_t hf c8
        refine lv_bipush (v := (-2 : Int32)) hx hb dX11_how_39 (by decide) ?_
        have e9 := Option.some.inj hf
        rw [hQ]
        exact W.iret (v := (-2 : Int32)) hx hb hr (fun t ht hW => ⟨⟨(-2 : Int32), o4, rfl, ⟨pr1 e9, pr2 e9⟩, ⟨by rw [ht]; exact hP, va_K.moved hW.alike hK, hD⟩⟩, hS.F ht⟩) hS.2.2 dX11_how_41
    · have hf := it_t hf c3
      refine lv_aload_n hx hb dX11_how_12 rfl (lv_at hl 0 rfl) ?_
      refine lv_iconst (v := (1 : Int32)) hx hb dX11_how_13 (by decide) ?_
      obtain ⟨o11, go11, hf⟩ := bd_s hf
      refine rs_Vi (As := [.int (1 : Int32)]) (rest := []) ⟨hx, hb, hml, hown, hts⟩ (c_X11_no l D K F hMo H.size o1 (1 : Int32) o11 go11) (cwV 1 hts (gcV_X11_no (mB18 _ (List.mem_of_getElem? (i := 15) rfl))) rfl rfl rfl hdV_X11_no ⟨Nat.le_of_ble_eq_true rfl, Nat.le_of_ble_eq_true rfl⟩) hK hP hD hS hA (va_recv hK hP (ci := 10) (q0 := 0) rfl o_Mo) rfl hl.1 rfl (Nat.le_of_ble_eq_true rfl) dX11_how_14 ⟨Nat.zero_le _, Nat.zero_le _⟩ (fun H locs hP hD hS => ?_)
      have hP : va_P D vwCl (wMo K hMo o11.2) H := hP
      have hD : va_D A (wMo K hMo o11.2) := hD
      have e9 := Option.some.inj hf
      rw [hQ]
      exact W.iret (v := o11.1) hx hb hr (fun t ht hW => ⟨⟨o11.1, o11.2, rfl, ⟨pr1 e9, pr2 e9⟩, ⟨by rw [ht]; exact hP, va_K.moved hW.alike hK, hD⟩⟩, hS.F ht⟩) hS.2.2 dX11_how_17
  rw [hHe] at hgo
  exact hgo

def wz_X11_fewest : List Cond := .code yX11_fewest cX11_fewest 1 (some .int) :: wsL_law
abbrev r_X11_fewest : Room := { frames := 3, cells := 0, slots := 0, locals := 72 }
set_option maxHeartbeats 4000000 in
set_option maxRecDepth 100000 in
theorem c_X11_fewest (l : Launch) (D : va_G) (K : Nat → ClassId) (F : Nat) (hMo : Nat → Nat) (sz : Nat) (sMo : MS) (res : Int32 × MS) (hf : f_X11_fewest F sMo = some res) : Met l yX11_fewest wz_X11_fewest r_X11_fewest (va_Pc [.ref (hMo 99)] (PW D K (wMo K hMo sMo) sz)) (va_Qi (fun r u => r = res.1 ∧ u = res.2) (fun u t => BW D K (va_A (wMo K hMo sMo) sz) (wMo K hMo u) t) (va_A (wMo K hMo sMo) sz)) 0 0 (va_A (wMo K hMo sMo) sz) := by
  refine Met.ofW (cc := cX11_fewest) (maxL := 1) (ret := (some .int)) (by decide) rfl ?_
  intro p e s m args below meth c s₁ B hml hv
  obtain ⟨hargs, hsz, hP, hK, hD0⟩ := hv
  have hx := B.exec
  have hb := B.bytes
  have hr := B.returns
  have hts := atoms_spec (ws := wz_X11_fewest) B.pre
  have htl : ∀ w ∈ wsL_law, w.before args s = true := fun w h => hts w (List.mem_cons_of_mem _ h)
  have hown : s.vm.findClass RX11 = some m.cls := findClass_of_methodNamed B.named
  have hlocks := B.notSynchronized
  subst hsz
  have hD := hD0.self (sz := s.heap.size)
  generalize hAe : va_A (wMo K hMo sMo) s.heap.size = A at hD ⊢
  have hA : ∀ q : Nat, s.heap.size ≤ q → A q := fun q h => by rw [← hAe]; exact Or.inr h
  have hS : va_S A s.heap s.heap [] := va_S.rf
  have iX11 : ∀ w ∈ wsX110, w ∈ wz_X11_fewest := fun w h => List.mem_cons_of_mem _ (inlX11 w h)
  suffices hgo : ∀ Q : State → Prop, Q = MQ below (va_Qi (fun r u => r = res.1 ∧ u = res.2) (fun u t => BW D K A (wMo K hMo u) t) A) args s 0 0 A → W p l e (headSpec wz_X11_fewest r_X11_fewest).room s m args below meth c s.heap [] 0 0 Q (entryFrame m args 1) from hgo _ rfl
  intro Q hQ
  have hen : entryFrame m args 1 = entryFrame m (([.ref (hMo 99)] : List Value).toArray) 1 := by rw [hargs]
  have hl := lv_entry ([.ref (hMo 99)]) (n := 1) (Nat.le_of_ble_eq_true rfl)
  rw [hen, lg_entry_eq]
  generalize (lg_sl ([.ref (hMo 99)]) ++ List.replicate (1 - (lg_sl ([.ref (hMo 99)])).length) Slot.unset).toArray = ls at hl ⊢
  have hl : lv_has ls 1 [(0, .ref (hMo 99))] := hl
  unfold f_X11_fewest at hf
  obtain ⟨H, hHe⟩ : ∃ z, z = s.heap := ⟨_, rfl⟩
  obtain ⟨locs, hLe⟩ : ∃ z : List Loc, z = [] := ⟨_, rfl⟩
  rw [← hLe]
  have hS : va_S A s.heap H locs := by rw [hHe, hLe]; exact hS
  have hP : va_P D vwCl (wMo K hMo sMo) H := by rw [hHe]; exact hP
  have hgo : W p l e (headSpec wz_X11_fewest r_X11_fewest).room s m args below meth c H locs 0 0 Q (F0 m 0 ls []) := by
    refine lv_aload_n hx hb dX11_fewest_0 rfl (lv_at hl 0 rfl) ?_
    obtain ⟨o1, go1, hf⟩ := bd_s hf
    refine rs_Vv (As := []) (rest := []) ⟨hx, hb, hml, hown, hts⟩ (c_X11_good l D K F hMo H.size sMo o1 go1) (cwV 0 hts (gcV_X11_good (mB18 _ (List.mem_of_getElem? (i := 7) rfl))) rfl rfl rfl hdV_X11_good ⟨Nat.le_of_ble_eq_true rfl, Nat.le_of_ble_eq_true rfl⟩) hK hP hD hS hA (va_recv hK hP (ci := 10) (q0 := 0) rfl o_Mo) rfl hl.1 rfl (Nat.le_of_ble_eq_true rfl) dX11_fewest_1 ⟨Nat.zero_le _, Nat.zero_le _⟩ (fun H locs hP hD hS => ?_)
    have hP : va_P D vwCl (wMo K hMo o1) H := hP
    have hD : va_D A (wMo K hMo o1) := hD
    refine lv_aload_n hx hb dX11_fewest_4 rfl (lv_at hl 0 rfl) ?_
    refine va_get (D := D) (ci := 10) (v := .int (o1.1 14)) (C := RX11) (T := TX11) (N := 41) hx hb hts iX11 hown hK hP 0 o_Mo rfl 14 (by decide) (htl _ (mB18 _ (List.mem_of_getElem? (i := 4) rfl))) (fun _ h9 => h9) rfl dX11_fewest_5 ?_
    refine lv_if_ne (tgt := 17) hx hb dX11_fewest_8 (by decide) (fun c2 => ?_) (fun c2 => ?_)
    · have hf := it_f hf c2
      refine lv_aload_n hx hb dX11_fewest_17 rfl (lv_at hl 0 rfl) ?_
      refine lv_iconst (v := (1 : Int32)) hx hb dX11_fewest_18 (by decide) ?_
      refine lv_iconst (v := (-1 : Int32)) hx hb dX11_fewest_19 (by decide) ?_
      obtain ⟨o3, go3, hf⟩ := bd_s hf
      refine rs_Vv (As := [.int (1 : Int32), .int (-1 : Int32)]) (rest := []) ⟨hx, hb, hml, hown, hts⟩ (c_X11_layPlans l D K F hMo H.size o1 (1 : Int32) (-1 : Int32) o3 go3) (cwV 2 hts (gcV_X11_layPlans (mB33 _ (List.mem_of_getElem? (i := 13) rfl))) rfl rfl rfl hdV_X11_layPlans ⟨Nat.le_of_ble_eq_true rfl, Nat.le_of_ble_eq_true rfl⟩) hK hP hD hS hA (va_recv hK hP (ci := 10) (q0 := 0) rfl o_Mo) rfl hl.1 rfl (Nat.le_of_ble_eq_true rfl) dX11_fewest_20 ⟨Nat.zero_le _, Nat.zero_le _⟩ (fun H locs hP hD hS => ?_)
      have hP : va_P D vwCl (wMo K hMo o3) H := hP
      have hD : va_D A (wMo K hMo o3) := hD
      refine lv_aload_n hx hb dX11_fewest_23 rfl (lv_at hl 0 rfl) ?_
      refine lv_aload_n hx hb dX11_fewest_24 rfl (lv_at hl 0 rfl) ?_
      refine va_get (D := D) (ci := 10) (v := .ref (hMo 15)) (C := RX11) (T := TX11) (N := 41) hx hb hts iX11 hown hK hP 0 o_Mo rfl 15 (by decide) (htl _ (mB6 _ (List.mem_of_getElem? (i := 3) rfl))) (fun _ h9 => h9) rfl dX11_fewest_25 ?_
      refine lv_iconst (v := (1 : Int32)) hx hb dX11_fewest_28 (by decide) ?_
      obtain ⟨g4, hf⟩ := gd_s hf
      refine va_iald hx hb hK hP 3 0 (f := o3.2.2.1 15) a_Mo_15 rfl (vpb_in g4) dX11_fewest_29 ?_
      refine lv_topi (fun v5 ev5 => ?_)
      have hf := lz_s hf v5 ev5
      obtain ⟨o6, go6, hf⟩ := bd_s hf
      refine ro_Vi (As := [.int v5]) (rest := []) ⟨hx, hb, hml, hown, hts⟩ (c_X11_leastFrom l D K F hMo o3 v5 o6 go6) (cwV 1 hts (gcV_X11_leastFrom (mB33 _ (List.mem_of_getElem? (i := 18) rfl))) rfl rfl rfl hdV_X11_leastFrom ⟨Nat.le_of_ble_eq_true rfl, Nat.le_of_ble_eq_true rfl⟩) hK hP hS hP (va_recv hK hP (ci := 10) (q0 := 0) rfl o_Mo) rfl hl.1 rfl (Nat.le_of_ble_eq_true rfl) dX11_fewest_30 ⟨Nat.zero_le _, Nat.zero_le _⟩ (fun H locs hP hS => ?_)
      have e9 := Option.some.inj hf
      rw [hQ]
      exact W.iret (v := o6) hx hb hr (fun t ht hW => ⟨⟨o6, o3, rfl, ⟨pr1 e9, pr2 e9⟩, ⟨by rw [ht]; exact hP, va_K.moved hW.alike hK, hD⟩⟩, hS.F ht⟩) hS.2.2 dX11_fewest_33
    · have hf := it_t hf c2
      refine lv_aload_n hx hb dX11_fewest_11 rfl (lv_at hl 0 rfl) ?_
      refine lv_iconst (v := (1 : Int32)) hx hb dX11_fewest_12 (by decide) ?_
      obtain ⟨o7, go7, hf⟩ := bd_s hf
      refine rs_Vi (As := [.int (1 : Int32)]) (rest := []) ⟨hx, hb, hml, hown, hts⟩ (c_X11_no l D K F hMo H.size o1 (1 : Int32) o7 go7) (cwV 1 hts (gcV_X11_no (mB18 _ (List.mem_of_getElem? (i := 15) rfl))) rfl rfl rfl hdV_X11_no ⟨Nat.le_of_ble_eq_true rfl, Nat.le_of_ble_eq_true rfl⟩) hK hP hD hS hA (va_recv hK hP (ci := 10) (q0 := 0) rfl o_Mo) rfl hl.1 rfl (Nat.le_of_ble_eq_true rfl) dX11_fewest_13 ⟨Nat.zero_le _, Nat.zero_le _⟩ (fun H locs hP hD hS => ?_)
      have hP : va_P D vwCl (wMo K hMo o7.2) H := hP
      have hD : va_D A (wMo K hMo o7.2) := hD
      have e9 := Option.some.inj hf
      rw [hQ]
      exact W.iret (v := o7.1) hx hb hr (fun t ht hW => ⟨⟨o7.1, o7.2, rfl, ⟨pr1 e9, pr2 e9⟩, ⟨by rw [ht]; exact hP, va_K.moved hW.alike hK, hD⟩⟩, hS.F ht⟩) hS.2.2 dX11_fewest_16
  rw [hHe] at hgo
  exact hgo

def wz_X11_without : List Cond := .code yX11_without cX11_without 2 (some .int) :: wsL_law
abbrev r_X11_without : Room := { frames := 3, cells := 0, slots := 0, locals := 72 }
set_option maxHeartbeats 4000000 in
set_option maxRecDepth 100000 in
theorem c_X11_without (l : Launch) (D : va_G) (K : Nat → ClassId) (F : Nat) (hMo : Nat → Nat) (sz : Nat) (sMo : MS) (p1 : Int32) (res : Int32 × MS) (hf : f_X11_without F p1 sMo = some res) : Met l yX11_without wz_X11_without r_X11_without (va_Pc [.ref (hMo 99), .int p1] (PW D K (wMo K hMo sMo) sz)) (va_Qi (fun r u => r = res.1 ∧ u = res.2) (fun u t => BW D K (va_A (wMo K hMo sMo) sz) (wMo K hMo u) t) (va_A (wMo K hMo sMo) sz)) 0 0 (va_A (wMo K hMo sMo) sz) := by
  refine Met.ofW (cc := cX11_without) (maxL := 2) (ret := (some .int)) (by decide) rfl ?_
  intro p e s m args below meth c s₁ B hml hv
  obtain ⟨hargs, hsz, hP, hK, hD0⟩ := hv
  have hx := B.exec
  have hb := B.bytes
  have hr := B.returns
  have hts := atoms_spec (ws := wz_X11_without) B.pre
  have htl : ∀ w ∈ wsL_law, w.before args s = true := fun w h => hts w (List.mem_cons_of_mem _ h)
  have hown : s.vm.findClass RX11 = some m.cls := findClass_of_methodNamed B.named
  have hlocks := B.notSynchronized
  subst hsz
  have hD := hD0.self (sz := s.heap.size)
  generalize hAe : va_A (wMo K hMo sMo) s.heap.size = A at hD ⊢
  have hA : ∀ q : Nat, s.heap.size ≤ q → A q := fun q h => by rw [← hAe]; exact Or.inr h
  have hS : va_S A s.heap s.heap [] := va_S.rf
  have iX11 : ∀ w ∈ wsX110, w ∈ wz_X11_without := fun w h => List.mem_cons_of_mem _ (inlX11 w h)
  suffices hgo : ∀ Q : State → Prop, Q = MQ below (va_Qi (fun r u => r = res.1 ∧ u = res.2) (fun u t => BW D K A (wMo K hMo u) t) A) args s 0 0 A → W p l e (headSpec wz_X11_without r_X11_without).room s m args below meth c s.heap [] 0 0 Q (entryFrame m args 2) from hgo _ rfl
  intro Q hQ
  have hen : entryFrame m args 2 = entryFrame m (([.ref (hMo 99), .int p1] : List Value).toArray) 2 := by rw [hargs]
  have hl := lv_entry ([.ref (hMo 99), .int p1]) (n := 2) (Nat.le_of_ble_eq_true rfl)
  rw [hen, lg_entry_eq]
  generalize (lg_sl ([.ref (hMo 99), .int p1]) ++ List.replicate (2 - (lg_sl ([.ref (hMo 99), .int p1])).length) Slot.unset).toArray = ls at hl ⊢
  have hl : lv_has ls 2 [(0, .ref (hMo 99)), (1, .int p1)] := hl
  unfold f_X11_without at hf
  obtain ⟨H, hHe⟩ : ∃ z, z = s.heap := ⟨_, rfl⟩
  obtain ⟨locs, hLe⟩ : ∃ z : List Loc, z = [] := ⟨_, rfl⟩
  rw [← hLe]
  have hS : va_S A s.heap H locs := by rw [hHe, hLe]; exact hS
  have hP : va_P D vwCl (wMo K hMo sMo) H := by rw [hHe]; exact hP
  have hgo : W p l e (headSpec wz_X11_without r_X11_without).room s m args below meth c H locs 0 0 Q (F0 m 0 ls []) := by
    refine lv_aload_n hx hb dX11_without_0 rfl (lv_at hl 0 rfl) ?_
    obtain ⟨o1, go1, hf⟩ := bd_s hf
    refine rs_Vv (As := []) (rest := []) ⟨hx, hb, hml, hown, hts⟩ (c_X11_good l D K F hMo H.size sMo o1 go1) (cwV 0 hts (gcV_X11_good (mB18 _ (List.mem_of_getElem? (i := 7) rfl))) rfl rfl rfl hdV_X11_good ⟨Nat.le_of_ble_eq_true rfl, Nat.le_of_ble_eq_true rfl⟩) hK hP hD hS hA (va_recv hK hP (ci := 10) (q0 := 0) rfl o_Mo) rfl hl.1 rfl (Nat.le_of_ble_eq_true rfl) dX11_without_1 ⟨Nat.zero_le _, Nat.zero_le _⟩ (fun H locs hP hD hS => ?_)
    have hP : va_P D vwCl (wMo K hMo o1) H := hP
    have hD : va_D A (wMo K hMo o1) := hD
    refine lv_aload_n hx hb dX11_without_4 rfl (lv_at hl 0 rfl) ?_
    refine lv_iload_n hx hb dX11_without_5 rfl (lv_at hl 1 rfl) ?_
    obtain ⟨o2, go2, hf⟩ := bd_s hf
    refine ro_Vi (As := [.int p1]) (rest := []) ⟨hx, hb, hml, hown, hts⟩ (c_X11_isStop l D K F hMo o1 p1 o2 go2) (cwV 1 hts (gcV_X11_isStop (mB29 _ (List.mem_of_getElem? (i := 12) rfl))) rfl rfl rfl hdV_X11_isStop ⟨Nat.le_of_ble_eq_true rfl, Nat.le_of_ble_eq_true rfl⟩) hK hP hS hP (va_recv hK hP (ci := 10) (q0 := 0) rfl o_Mo) rfl hl.1 rfl (Nat.le_of_ble_eq_true rfl) dX11_without_6 ⟨Nat.zero_le _, Nat.zero_le _⟩ (fun H locs hP hS => ?_)
    refine lv_if_ne (tgt := 18) hx hb dX11_without_9 (by decide) (fun c3 => ?_) (fun c3 => ?_)
    · have hf := it_f hf c3
      refine lv_aload_n hx hb dX11_without_18 rfl (lv_at hl 0 rfl) ?_
      refine lv_iload_n hx hb dX11_without_19 rfl (lv_at hl 1 rfl) ?_
      obtain ⟨o4, go4, hf⟩ := bd_s hf
      refine ro_Vi (As := [.int p1]) (rest := []) ⟨hx, hb, hml, hown, hts⟩ (c_X11_priceAt l D K F hMo o1 p1 o4 go4) (cwV 1 hts (gcV_X11_priceAt (mB31 _ (List.mem_of_getElem? (i := 0) rfl))) rfl rfl rfl hdV_X11_priceAt ⟨Nat.le_of_ble_eq_true rfl, Nat.le_of_ble_eq_true rfl⟩) hK hP hS hP (va_recv hK hP (ci := 10) (q0 := 0) rfl o_Mo) rfl hl.1 rfl (Nat.le_of_ble_eq_true rfl) dX11_without_20 ⟨Nat.zero_le _, Nat.zero_le _⟩ (fun H locs hP hS => ?_)
      refine lv_if_ne (tgt := 33) hx hb dX11_without_23 (by decide) (fun c5 => ?_) (fun c5 => ?_)
      · have hf := it_f hf c5
        refine lv_aload_n hx hb dX11_without_33 rfl (lv_at hl 0 rfl) ?_
        refine lv_iconst (v := (0 : Int32)) hx hb dX11_without_34 (by decide) ?_
        refine lv_iload_n hx hb dX11_without_35 rfl (lv_at hl 1 rfl) ?_
        obtain ⟨o6, go6, hf⟩ := bd_s hf
        refine rs_Vv (As := [.int (0 : Int32), .int p1]) (rest := []) ⟨hx, hb, hml, hown, hts⟩ (c_X11_layPlans l D K F hMo H.size o1 (0 : Int32) p1 o6 go6) (cwV 2 hts (gcV_X11_layPlans (mB33 _ (List.mem_of_getElem? (i := 13) rfl))) rfl rfl rfl hdV_X11_layPlans ⟨Nat.le_of_ble_eq_true rfl, Nat.le_of_ble_eq_true rfl⟩) hK hP hD hS hA (va_recv hK hP (ci := 10) (q0 := 0) rfl o_Mo) rfl hl.1 rfl (Nat.le_of_ble_eq_true rfl) dX11_without_36 ⟨Nat.zero_le _, Nat.zero_le _⟩ (fun H locs hP hD hS => ?_)
        have hP : va_P D vwCl (wMo K hMo o6) H := hP
        have hD : va_D A (wMo K hMo o6) := hD
        refine lv_aload_n hx hb dX11_without_39 rfl (lv_at hl 0 rfl) ?_
        refine lv_aload_n hx hb dX11_without_40 rfl (lv_at hl 0 rfl) ?_
        refine va_get (D := D) (ci := 10) (v := .ref (hMo 15)) (C := RX11) (T := TX11) (N := 41) hx hb hts iX11 hown hK hP 0 o_Mo rfl 15 (by decide) (htl _ (mB6 _ (List.mem_of_getElem? (i := 3) rfl))) (fun _ h9 => h9) rfl dX11_without_41 ?_
        refine lv_iconst (v := (1 : Int32)) hx hb dX11_without_44 (by decide) ?_
        obtain ⟨g7, hf⟩ := gd_s hf
        refine va_iald hx hb hK hP 3 0 (f := o6.2.2.1 15) a_Mo_15 rfl (vpb_in g7) dX11_without_45 ?_
        refine lv_topi (fun v8 ev8 => ?_)
        have hf := lz_s hf v8 ev8
        obtain ⟨o9, go9, hf⟩ := bd_s hf
        refine ro_Vi (As := [.int v8]) (rest := []) ⟨hx, hb, hml, hown, hts⟩ (c_X11_leastFrom l D K F hMo o6 v8 o9 go9) (cwV 1 hts (gcV_X11_leastFrom (mB33 _ (List.mem_of_getElem? (i := 18) rfl))) rfl rfl rfl hdV_X11_leastFrom ⟨Nat.le_of_ble_eq_true rfl, Nat.le_of_ble_eq_true rfl⟩) hK hP hS hP (va_recv hK hP (ci := 10) (q0 := 0) rfl o_Mo) rfl hl.1 rfl (Nat.le_of_ble_eq_true rfl) dX11_without_46 ⟨Nat.zero_le _, Nat.zero_le _⟩ (fun H locs hP hS => ?_)
        have e9 := Option.some.inj hf
        rw [hQ]
        exact W.iret (v := o9) hx hb hr (fun t ht hW => ⟨⟨o9, o6, rfl, ⟨pr1 e9, pr2 e9⟩, ⟨by rw [ht]; exact hP, va_K.moved hW.alike hK, hD⟩⟩, hS.F ht⟩) hS.2.2 dX11_without_49
      · have hf := it_t hf c5
        refine lv_aload_n hx hb dX11_without_26 rfl (lv_at hl 0 rfl) ?_
        refine lv_bipush (v := (6 : Int32)) hx hb dX11_without_27 (by decide) ?_
        obtain ⟨o10, go10, hf⟩ := bd_s hf
        refine rs_Vi (As := [.int (6 : Int32)]) (rest := []) ⟨hx, hb, hml, hown, hts⟩ (c_X11_no l D K F hMo H.size o1 (6 : Int32) o10 go10) (cwV 1 hts (gcV_X11_no (mB18 _ (List.mem_of_getElem? (i := 15) rfl))) rfl rfl rfl hdV_X11_no ⟨Nat.le_of_ble_eq_true rfl, Nat.le_of_ble_eq_true rfl⟩) hK hP hD hS hA (va_recv hK hP (ci := 10) (q0 := 0) rfl o_Mo) rfl hl.1 rfl (Nat.le_of_ble_eq_true rfl) dX11_without_29 ⟨Nat.zero_le _, Nat.zero_le _⟩ (fun H locs hP hD hS => ?_)
        have hP : va_P D vwCl (wMo K hMo o10.2) H := hP
        have hD : va_D A (wMo K hMo o10.2) := hD
        have e9 := Option.some.inj hf
        rw [hQ]
        exact W.iret (v := o10.1) hx hb hr (fun t ht hW => ⟨⟨o10.1, o10.2, rfl, ⟨pr1 e9, pr2 e9⟩, ⟨by rw [ht]; exact hP, va_K.moved hW.alike hK, hD⟩⟩, hS.F ht⟩) hS.2.2 dX11_without_32
    · have hf := it_t hf c3
      refine lv_aload_n hx hb dX11_without_12 rfl (lv_at hl 0 rfl) ?_
      refine lv_iconst (v := (1 : Int32)) hx hb dX11_without_13 (by decide) ?_
      obtain ⟨o11, go11, hf⟩ := bd_s hf
      refine rs_Vi (As := [.int (1 : Int32)]) (rest := []) ⟨hx, hb, hml, hown, hts⟩ (c_X11_no l D K F hMo H.size o1 (1 : Int32) o11 go11) (cwV 1 hts (gcV_X11_no (mB18 _ (List.mem_of_getElem? (i := 15) rfl))) rfl rfl rfl hdV_X11_no ⟨Nat.le_of_ble_eq_true rfl, Nat.le_of_ble_eq_true rfl⟩) hK hP hD hS hA (va_recv hK hP (ci := 10) (q0 := 0) rfl o_Mo) rfl hl.1 rfl (Nat.le_of_ble_eq_true rfl) dX11_without_14 ⟨Nat.zero_le _, Nat.zero_le _⟩ (fun H locs hP hD hS => ?_)
      have hP : va_P D vwCl (wMo K hMo o11.2) H := hP
      have hD : va_D A (wMo K hMo o11.2) := hD
      have e9 := Option.some.inj hf
      rw [hQ]
      exact W.iret (v := o11.1) hx hb hr (fun t ht hW => ⟨⟨o11.1, o11.2, rfl, ⟨pr1 e9, pr2 e9⟩, ⟨by rw [ht]; exact hP, va_K.moved hW.alike hK, hD⟩⟩, hS.F ht⟩) hS.2.2 dX11_without_17
  rw [hHe] at hgo
  exact hgo

def wz_X11_gap : List Cond := .code yX11_gap cX11_gap 5 (some .int) :: wsL_law
abbrev r_X11_gap : Room := { frames := 3, cells := 0, slots := 0, locals := 72 }
set_option maxHeartbeats 4000000 in
set_option maxRecDepth 100000 in
theorem c_X11_gap (l : Launch) (D : va_G) (K : Nat → ClassId) (F : Nat) (hMo : Nat → Nat) (sz : Nat) (sMo : MS) (res : Int32 × MS) (hf : f_X11_gap F sMo = some res) : Met l yX11_gap wz_X11_gap r_X11_gap (va_Pc [.ref (hMo 99)] (PW D K (wMo K hMo sMo) sz)) (va_Qi (fun r u => r = res.1 ∧ u = res.2) (fun u t => BW D K (va_A (wMo K hMo sMo) sz) (wMo K hMo u) t) (va_A (wMo K hMo sMo) sz)) 0 0 (va_A (wMo K hMo sMo) sz) := by
  refine Met.ofW (cc := cX11_gap) (maxL := 5) (ret := (some .int)) (by decide) rfl ?_
  intro p e s m args below meth c s₁ B hml hv
  obtain ⟨hargs, hsz, hP, hK, hD0⟩ := hv
  have hx := B.exec
  have hb := B.bytes
  have hr := B.returns
  have hts := atoms_spec (ws := wz_X11_gap) B.pre
  have htl : ∀ w ∈ wsL_law, w.before args s = true := fun w h => hts w (List.mem_cons_of_mem _ h)
  have hown : s.vm.findClass RX11 = some m.cls := findClass_of_methodNamed B.named
  have hlocks := B.notSynchronized
  subst hsz
  have hD := hD0.self (sz := s.heap.size)
  generalize hAe : va_A (wMo K hMo sMo) s.heap.size = A at hD ⊢
  have hA : ∀ q : Nat, s.heap.size ≤ q → A q := fun q h => by rw [← hAe]; exact Or.inr h
  have hS : va_S A s.heap s.heap [] := va_S.rf
  have iX11 : ∀ w ∈ wsX110, w ∈ wz_X11_gap := fun w h => List.mem_cons_of_mem _ (inlX11 w h)
  suffices hgo : ∀ Q : State → Prop, Q = MQ below (va_Qi (fun r u => r = res.1 ∧ u = res.2) (fun u t => BW D K A (wMo K hMo u) t) A) args s 0 0 A → W p l e (headSpec wz_X11_gap r_X11_gap).room s m args below meth c s.heap [] 0 0 Q (entryFrame m args 5) from hgo _ rfl
  intro Q hQ
  have w117 : ∀ (x1 : Int32), ∀ (sMo : MS), ∀ (H : Heap) (locs : List Loc) (ls : Array Slot), f_X11_gap_117 F x1 sMo = some res → va_P D vwCl (wMo K hMo sMo) H → va_D A (wMo K hMo sMo) → va_S A s.heap H locs → lv_has ls 5 [(0, .ref (hMo 99)), (1, .int x1)] → W p l e (headSpec wz_X11_gap r_X11_gap).room s m args below meth c H locs 0 0 Q (F0 m 117 ls []) := by
    intro x1 sMo H locs ls hf hP hD hS hl
    unfold f_X11_gap_117 at hf
    refine lv_iload_n hx hb dX11_gap_117 rfl (lv_at hl 1 rfl) ?_
    refine lv_if_ge (tgt := 130) hx hb dX11_gap_118 (by decide) (fun c21 => ?_) (fun c21 => ?_)
    · have hf := it_t hf c21
      refine lv_iload_n hx hb dX11_gap_130 rfl (lv_at hl 1 rfl) ?_
      have e9 := Option.some.inj hf
      rw [hQ]
      exact W.iret (v := x1) hx hb hr (fun t ht hW => ⟨⟨x1, sMo, rfl, ⟨pr1 e9, pr2 e9⟩, ⟨by rw [ht]; exact hP, va_K.moved hW.alike hK, hD⟩⟩, hS.F ht⟩) hS.2.2 dX11_gap_131
    · have hf := it_f hf c21
      refine lv_aload_n hx hb dX11_gap_121 rfl (lv_at hl 0 rfl) ?_
      refine lv_bipush (v := (6 : Int32)) hx hb dX11_gap_122 (by decide) ?_
      obtain ⟨o22, go22, hf⟩ := bd_s hf
      refine rs_Vi (As := [.int (6 : Int32)]) (rest := []) ⟨hx, hb, hml, hown, hts⟩ (c_X11_no l D K F hMo H.size sMo (6 : Int32) o22 go22) (cwV 1 hts (gcV_X11_no (mB18 _ (List.mem_of_getElem? (i := 15) rfl))) rfl rfl rfl hdV_X11_no ⟨Nat.le_of_ble_eq_true rfl, Nat.le_of_ble_eq_true rfl⟩) hK hP hD hS hA (va_recv hK hP (ci := 10) (q0 := 0) rfl o_Mo) rfl hl.1 rfl (Nat.le_of_ble_eq_true rfl) dX11_gap_124 ⟨Nat.zero_le _, Nat.zero_le _⟩ (fun H locs hP hD hS => ?_)
      have hP : va_P D vwCl (wMo K hMo o22.2) H := hP
      have hD : va_D A (wMo K hMo o22.2) := hD
      refine lv_goto (tgt := 131) hx hb dX11_gap_127 (by decide) ?_
      have e9 := Option.some.inj hf
      rw [hQ]
      exact W.iret (v := o22.1) hx hb hr (fun t ht hW => ⟨⟨o22.1, o22.2, rfl, ⟨pr1 e9, pr2 e9⟩, ⟨by rw [ht]; exact hP, va_K.moved hW.alike hK, hD⟩⟩, hS.F ht⟩) hS.2.2 dX11_gap_131
  have w111 : ∀ (k51 : Int32 → Int32 → Int32 → MS → Option (Int32 × MS)), (∀ (x1 : Int32), ∀ (x2 : Int32), ∀ (x3 : Int32), ∀ (sMo : MS), ∀ (H : Heap) (locs : List Loc) (ls : Array Slot), k51 x1 x2 x3 sMo = some res → va_P D vwCl (wMo K hMo sMo) H → va_D A (wMo K hMo sMo) → va_S A s.heap H locs → lv_has ls 5 [(0, .ref (hMo 99)), (1, .int x1), (2, .int x2), (3, .int x3)] → W p l e (headSpec wz_X11_gap r_X11_gap).room s m args below meth c H locs 0 0 Q (F0 m 51 ls [])) → ∀ (x1 : Int32), ∀ (x2 : Int32), ∀ (x3 : Int32), ∀ (sMo : MS), ∀ (H : Heap) (locs : List Loc) (ls : Array Slot), f_X11_gap_111 F k51 x1 x2 x3 sMo = some res → va_P D vwCl (wMo K hMo sMo) H → va_D A (wMo K hMo sMo) → va_S A s.heap H locs → lv_has ls 5 [(0, .ref (hMo 99)), (1, .int x1), (2, .int x2), (3, .int x3)] → W p l e (headSpec wz_X11_gap r_X11_gap).room s m args below meth c H locs 0 0 Q (F0 m 111 ls []) := by
    intro k51 hk51 x1 x2 x3 sMo H locs ls hf hP hD hS hl
    unfold f_X11_gap_111 at hf
    obtain ⟨v20, ev20⟩ : ∃ z : Int32, z = x3 + (1 : Int32) := ⟨_, rfl⟩
    have hf := lz_s hf v20 ev20
    refine lv_iinc (v := v20) (lv' := [(3, .int v20), (0, .ref (hMo 99)), (1, .int x1), (2, .int x2)]) hx hb dX11_gap_111 hl (k := 3) rfl (by rw [ev20]; rfl) (by decide) rfl (fun ls hl => ?_)
    refine lv_goto (tgt := 51) hx hb dX11_gap_114 (by decide) ?_
    exact hk51 x1 x2 v20 sMo H locs ls hf hP hD hS (lv_sub hl [1, 2, 3, 0] rfl)
  have w51 : ∀ (n : Nat), ∀ (x1 : Int32), ∀ (x2 : Int32), ∀ (x3 : Int32), ∀ (sMo : MS), ∀ (H : Heap) (locs : List Loc) (ls : Array Slot), f_X11_gap_51 F n x1 x2 x3 sMo = some res → va_P D vwCl (wMo K hMo sMo) H → va_D A (wMo K hMo sMo) → va_S A s.heap H locs → lv_has ls 5 [(0, .ref (hMo 99)), (1, .int x1), (2, .int x2), (3, .int x3)] → W p l e (headSpec wz_X11_gap r_X11_gap).room s m args below meth c H locs 0 0 Q (F0 m 51 ls []) := by
    intro n
    induction n with
    | zero =>
      intro x1 x2 x3 sMo H locs ls hf
      exact absurd (show none = some res from hf) (fun h => nomatch h)
    | succ n ih =>
      intro x1 x2 x3 sMo H locs ls hf hP hD hS hl
      rw [f_X11_gap_51] at hf
      refine lv_iload_n hx hb dX11_gap_51 rfl (lv_at hl 3 rfl) ?_
      refine lv_aload_n hx hb dX11_gap_52 rfl (lv_at hl 0 rfl) ?_
      obtain ⟨o10, go10, hf⟩ := bd_s hf
      refine ro_Vi (As := []) (rest := [.int x3]) ⟨hx, hb, hml, hown, hts⟩ (c_X11_lastStation l D K F hMo sMo o10 go10) (cwV 0 hts (gcV_X11_lastStation (mB28 _ (List.mem_of_getElem? (i := 11) rfl))) rfl rfl rfl hdV_X11_lastStation ⟨Nat.le_of_ble_eq_true rfl, Nat.le_of_ble_eq_true rfl⟩) hK hP hS hP (va_recv hK hP (ci := 10) (q0 := 0) rfl o_Mo) rfl hl.1 rfl (Nat.le_of_ble_eq_true rfl) dX11_gap_53 ⟨Nat.zero_le _, Nat.zero_le _⟩ (fun H locs hP hS => ?_)
      refine lv_icmp_ge (tgt := 117) hx hb dX11_gap_56 (by decide) (fun c11 => ?_) (fun c11 => ?_)
      · have hf := it_t hf c11
        exact w117 x1 sMo H locs ls hf hP hD hS (lv_sub hl [0, 1] rfl)
      · have hf := it_f hf c11
        refine lv_aload_n hx hb dX11_gap_59 rfl (lv_at hl 0 rfl) ?_
        refine lv_iload_n hx hb dX11_gap_60 rfl (lv_at hl 3 rfl) ?_
        obtain ⟨o12, go12, hf⟩ := bd_s hf
        refine ro_Vi (As := [.int x3]) (rest := []) ⟨hx, hb, hml, hown, hts⟩ (c_X11_priceAt l D K F hMo sMo x3 o12 go12) (cwV 1 hts (gcV_X11_priceAt (mB31 _ (List.mem_of_getElem? (i := 0) rfl))) rfl rfl rfl hdV_X11_priceAt ⟨Nat.le_of_ble_eq_true rfl, Nat.le_of_ble_eq_true rfl⟩) hK hP hS hP (va_recv hK hP (ci := 10) (q0 := 0) rfl o_Mo) rfl hl.1 rfl (Nat.le_of_ble_eq_true rfl) dX11_gap_61 ⟨Nat.zero_le _, Nat.zero_le _⟩ (fun H locs hP hS => ?_)
        refine lv_if_ne (tgt := 70) hx hb dX11_gap_64 (by decide) (fun c13 => ?_) (fun c13 => ?_)
        · have hf := it_f hf c13
          refine lv_aload_n hx hb dX11_gap_70 rfl (lv_at hl 0 rfl) ?_
          refine lv_iconst (v := (0 : Int32)) hx hb dX11_gap_71 (by decide) ?_
          refine lv_iload_n hx hb dX11_gap_72 rfl (lv_at hl 3 rfl) ?_
          obtain ⟨o14, go14, hf⟩ := bd_s hf
          refine rs_Vv (As := [.int (0 : Int32), .int x3]) (rest := []) ⟨hx, hb, hml, hown, hts⟩ (c_X11_layPlans l D K F hMo H.size sMo (0 : Int32) x3 o14 go14) (cwV 2 hts (gcV_X11_layPlans (mB33 _ (List.mem_of_getElem? (i := 13) rfl))) rfl rfl rfl hdV_X11_layPlans ⟨Nat.le_of_ble_eq_true rfl, Nat.le_of_ble_eq_true rfl⟩) hK hP hD hS hA (va_recv hK hP (ci := 10) (q0 := 0) rfl o_Mo) rfl hl.1 rfl (Nat.le_of_ble_eq_true rfl) dX11_gap_73 ⟨Nat.zero_le _, Nat.zero_le _⟩ (fun H locs hP hD hS => ?_)
          have hP : va_P D vwCl (wMo K hMo o14) H := hP
          have hD : va_D A (wMo K hMo o14) := hD
          refine lv_aload_n hx hb dX11_gap_76 rfl (lv_at hl 0 rfl) ?_
          refine lv_aload_n hx hb dX11_gap_77 rfl (lv_at hl 0 rfl) ?_
          refine va_get (D := D) (ci := 10) (v := .ref (hMo 15)) (C := RX11) (T := TX11) (N := 41) hx hb hts iX11 hown hK hP 0 o_Mo rfl 15 (by decide) (htl _ (mB6 _ (List.mem_of_getElem? (i := 3) rfl))) (fun _ h9 => h9) rfl dX11_gap_78 ?_
          refine lv_iconst (v := (1 : Int32)) hx hb dX11_gap_81 (by decide) ?_
          obtain ⟨g15, hf⟩ := gd_s hf
          refine va_iald hx hb hK hP 3 0 (f := o14.2.2.1 15) a_Mo_15 rfl (vpb_in g15) dX11_gap_82 ?_
          refine lv_topi (fun v16 ev16 => ?_)
          have hf := lz_s hf v16 ev16
          obtain ⟨o17, go17, hf⟩ := bd_s hf
          refine ro_Vi (As := [.int v16]) (rest := []) ⟨hx, hb, hml, hown, hts⟩ (c_X11_leastFrom l D K F hMo o14 v16 o17 go17) (cwV 1 hts (gcV_X11_leastFrom (mB33 _ (List.mem_of_getElem? (i := 18) rfl))) rfl rfl rfl hdV_X11_leastFrom ⟨Nat.le_of_ble_eq_true rfl, Nat.le_of_ble_eq_true rfl⟩) hK hP hS hP (va_recv hK hP (ci := 10) (q0 := 0) rfl o_Mo) rfl hl.1 rfl (Nat.le_of_ble_eq_true rfl) dX11_gap_83 ⟨Nat.zero_le _, Nat.zero_le _⟩ (fun H locs hP hS => ?_)
          refine lv_istore (lv' := [(4, .int o17), (0, .ref (hMo 99)), (1, .int x1), (2, .int x2), (3, .int x3)]) hx hb dX11_gap_86 hl (by decide) rfl (fun ls hl => ?_)
          refine lv_iload hx hb dX11_gap_88 (lv_at hl 0 rfl) ?_
          refine lv_bipush (v := (-2 : Int32)) hx hb dX11_gap_90 (by decide) ?_
          refine lv_icmp_ne (tgt := 97) hx hb dX11_gap_92 (by decide) (fun c18 => ?_) (fun c18 => ?_)
          · have hf := it_f hf c18
            refine lv_iload hx hb dX11_gap_97 (lv_at hl 0 rfl) ?_
            refine lv_iload_n hx hb dX11_gap_99 rfl (lv_at hl 3 rfl) ?_
            refine lv_icmp_gt (tgt := 106) hx hb dX11_gap_100 (by decide) (fun c19 => ?_) (fun c19 => ?_)
            · have hf := it_t hf c19
              refine lv_iload_n hx hb dX11_gap_106 rfl (lv_at hl 4 rfl) ?_
              refine lv_istore_n (lv' := [(1, .int x3), (4, .int o17), (0, .ref (hMo 99)), (2, .int x2), (3, .int x3)]) hx hb dX11_gap_107 rfl hl (by decide) rfl (fun ls hl => ?_)
              refine lv_iload hx hb dX11_gap_108 (lv_at hl 1 rfl) ?_
              refine lv_istore_n (lv' := [(2, .int o17), (1, .int x3), (4, .int o17), (0, .ref (hMo 99)), (3, .int x3)]) hx hb dX11_gap_110 rfl hl (by decide) rfl (fun ls hl => ?_)
              exact w111 (f_X11_gap_51 F n) ih x3 o17 x3 o14 H locs ls hf hP hD hS (lv_sub hl [3, 1, 0, 4] rfl)
            · have hf := it_f hf c19
              refine lv_goto (tgt := 111) hx hb dX11_gap_103 (by decide) ?_
              exact w111 (f_X11_gap_51 F n) ih x1 x2 x3 o14 H locs ls hf hP hD hS (lv_sub hl [1, 2, 3, 4] rfl)
          · have hf := it_t hf c18
            refine lv_iload_n hx hb dX11_gap_95 rfl (lv_at hl 4 rfl) ?_
            have e9 := Option.some.inj hf
            rw [hQ]
            exact W.iret (v := x3) hx hb hr (fun t ht hW => ⟨⟨x3, o14, rfl, ⟨pr1 e9, pr2 e9⟩, ⟨by rw [ht]; exact hP, va_K.moved hW.alike hK, hD⟩⟩, hS.F ht⟩) hS.2.2 dX11_gap_96
        · have hf := it_t hf c13
          refine lv_goto (tgt := 111) hx hb dX11_gap_67 (by decide) ?_
          exact w111 (f_X11_gap_51 F n) ih x1 x2 x3 sMo H locs ls hf hP hD hS (lv_sub hl [0, 1, 2, 3] rfl)
  have hen : entryFrame m args 5 = entryFrame m (([.ref (hMo 99)] : List Value).toArray) 5 := by rw [hargs]
  have hl := lv_entry ([.ref (hMo 99)]) (n := 5) (Nat.le_of_ble_eq_true rfl)
  rw [hen, lg_entry_eq]
  generalize (lg_sl ([.ref (hMo 99)]) ++ List.replicate (5 - (lg_sl ([.ref (hMo 99)])).length) Slot.unset).toArray = ls at hl ⊢
  have hl : lv_has ls 5 [(0, .ref (hMo 99))] := hl
  unfold f_X11_gap at hf
  obtain ⟨H, hHe⟩ : ∃ z, z = s.heap := ⟨_, rfl⟩
  obtain ⟨locs, hLe⟩ : ∃ z : List Loc, z = [] := ⟨_, rfl⟩
  rw [← hLe]
  have hS : va_S A s.heap H locs := by rw [hHe, hLe]; exact hS
  have hP : va_P D vwCl (wMo K hMo sMo) H := by rw [hHe]; exact hP
  have hgo : W p l e (headSpec wz_X11_gap r_X11_gap).room s m args below meth c H locs 0 0 Q (F0 m 0 ls []) := by
    refine lv_aload_n hx hb dX11_gap_0 rfl (lv_at hl 0 rfl) ?_
    obtain ⟨o1, go1, hf⟩ := bd_s hf
    refine rs_Vv (As := []) (rest := []) ⟨hx, hb, hml, hown, hts⟩ (c_X11_good l D K F hMo H.size sMo o1 go1) (cwV 0 hts (gcV_X11_good (mB18 _ (List.mem_of_getElem? (i := 7) rfl))) rfl rfl rfl hdV_X11_good ⟨Nat.le_of_ble_eq_true rfl, Nat.le_of_ble_eq_true rfl⟩) hK hP hD hS hA (va_recv hK hP (ci := 10) (q0 := 0) rfl o_Mo) rfl hl.1 rfl (Nat.le_of_ble_eq_true rfl) dX11_gap_1 ⟨Nat.zero_le _, Nat.zero_le _⟩ (fun H locs hP hD hS => ?_)
    have hP : va_P D vwCl (wMo K hMo o1) H := hP
    have hD : va_D A (wMo K hMo o1) := hD
    refine lv_aload_n hx hb dX11_gap_4 rfl (lv_at hl 0 rfl) ?_
    refine va_get (D := D) (ci := 10) (v := .int (o1.1 14)) (C := RX11) (T := TX11) (N := 41) hx hb hts iX11 hown hK hP 0 o_Mo rfl 14 (by decide) (htl _ (mB18 _ (List.mem_of_getElem? (i := 4) rfl))) (fun _ h9 => h9) rfl dX11_gap_5 ?_
    refine lv_if_ne (tgt := 17) hx hb dX11_gap_8 (by decide) (fun c2 => ?_) (fun c2 => ?_)
    · have hf := it_f hf c2
      refine lv_aload_n hx hb dX11_gap_17 rfl (lv_at hl 0 rfl) ?_
      refine lv_iconst (v := (0 : Int32)) hx hb dX11_gap_18 (by decide) ?_
      refine lv_iconst (v := (-1 : Int32)) hx hb dX11_gap_19 (by decide) ?_
      obtain ⟨o3, go3, hf⟩ := bd_s hf
      refine rs_Vv (As := [.int (0 : Int32), .int (-1 : Int32)]) (rest := []) ⟨hx, hb, hml, hown, hts⟩ (c_X11_layPlans l D K F hMo H.size o1 (0 : Int32) (-1 : Int32) o3 go3) (cwV 2 hts (gcV_X11_layPlans (mB33 _ (List.mem_of_getElem? (i := 13) rfl))) rfl rfl rfl hdV_X11_layPlans ⟨Nat.le_of_ble_eq_true rfl, Nat.le_of_ble_eq_true rfl⟩) hK hP hD hS hA (va_recv hK hP (ci := 10) (q0 := 0) rfl o_Mo) rfl hl.1 rfl (Nat.le_of_ble_eq_true rfl) dX11_gap_20 ⟨Nat.zero_le _, Nat.zero_le _⟩ (fun H locs hP hD hS => ?_)
      have hP : va_P D vwCl (wMo K hMo o3) H := hP
      have hD : va_D A (wMo K hMo o3) := hD
      refine lv_aload_n hx hb dX11_gap_23 rfl (lv_at hl 0 rfl) ?_
      refine lv_aload_n hx hb dX11_gap_24 rfl (lv_at hl 0 rfl) ?_
      refine va_get (D := D) (ci := 10) (v := .ref (hMo 15)) (C := RX11) (T := TX11) (N := 41) hx hb hts iX11 hown hK hP 0 o_Mo rfl 15 (by decide) (htl _ (mB6 _ (List.mem_of_getElem? (i := 3) rfl))) (fun _ h9 => h9) rfl dX11_gap_25 ?_
      refine lv_iconst (v := (1 : Int32)) hx hb dX11_gap_28 (by decide) ?_
      obtain ⟨g4, hf⟩ := gd_s hf
      refine va_iald hx hb hK hP 3 0 (f := o3.2.2.1 15) a_Mo_15 rfl (vpb_in g4) dX11_gap_29 ?_
      refine lv_topi (fun v5 ev5 => ?_)
      have hf := lz_s hf v5 ev5
      obtain ⟨o6, go6, hf⟩ := bd_s hf
      refine ro_Vi (As := [.int v5]) (rest := []) ⟨hx, hb, hml, hown, hts⟩ (c_X11_leastFrom l D K F hMo o3 v5 o6 go6) (cwV 1 hts (gcV_X11_leastFrom (mB33 _ (List.mem_of_getElem? (i := 18) rfl))) rfl rfl rfl hdV_X11_leastFrom ⟨Nat.le_of_ble_eq_true rfl, Nat.le_of_ble_eq_true rfl⟩) hK hP hS hP (va_recv hK hP (ci := 10) (q0 := 0) rfl o_Mo) rfl hl.1 rfl (Nat.le_of_ble_eq_true rfl) dX11_gap_30 ⟨Nat.zero_le _, Nat.zero_le _⟩ (fun H locs hP hS => ?_)
      refine lv_bipush (v := (-2 : Int32)) hx hb dX11_gap_33 (by decide) ?_
      refine lv_icmp_ne (tgt := 45) hx hb dX11_gap_35 (by decide) (fun c7 => ?_) (fun c7 => ?_)
      · have hf := it_f hf c7
        refine lv_iconst (v := (-1 : Int32)) hx hb dX11_gap_45 (by decide) ?_
        refine lv_istore_n (lv' := [(1, .int (-1 : Int32)), (0, .ref (hMo 99))]) hx hb dX11_gap_46 rfl hl (by decide) rfl (fun ls hl => ?_)
        refine lv_iconst (v := (-1 : Int32)) hx hb dX11_gap_47 (by decide) ?_
        refine lv_istore_n (lv' := [(2, .int (-1 : Int32)), (1, .int (-1 : Int32)), (0, .ref (hMo 99))]) hx hb dX11_gap_48 rfl hl (by decide) rfl (fun ls hl => ?_)
        refine lv_iconst (v := (0 : Int32)) hx hb dX11_gap_49 (by decide) ?_
        refine lv_istore_n (lv' := [(3, .int (0 : Int32)), (2, .int (-1 : Int32)), (1, .int (-1 : Int32)), (0, .ref (hMo 99))]) hx hb dX11_gap_50 rfl hl (by decide) rfl (fun ls hl => ?_)
        exact w51 F (-1 : Int32) (-1 : Int32) (0 : Int32) o3 H locs ls hf hP hD hS (lv_sub hl [3, 2, 1, 0] rfl)
      · have hf := it_t hf c7
        refine lv_aload_n hx hb dX11_gap_38 rfl (lv_at hl 0 rfl) ?_
        refine lv_bipush (v := (6 : Int32)) hx hb dX11_gap_39 (by decide) ?_
        obtain ⟨o8, go8, hf⟩ := bd_s hf
        refine rs_Vi (As := [.int (6 : Int32)]) (rest := []) ⟨hx, hb, hml, hown, hts⟩ (c_X11_no l D K F hMo H.size o3 (6 : Int32) o8 go8) (cwV 1 hts (gcV_X11_no (mB18 _ (List.mem_of_getElem? (i := 15) rfl))) rfl rfl rfl hdV_X11_no ⟨Nat.le_of_ble_eq_true rfl, Nat.le_of_ble_eq_true rfl⟩) hK hP hD hS hA (va_recv hK hP (ci := 10) (q0 := 0) rfl o_Mo) rfl hl.1 rfl (Nat.le_of_ble_eq_true rfl) dX11_gap_41 ⟨Nat.zero_le _, Nat.zero_le _⟩ (fun H locs hP hD hS => ?_)
        have hP : va_P D vwCl (wMo K hMo o8.2) H := hP
        have hD : va_D A (wMo K hMo o8.2) := hD
        have e9 := Option.some.inj hf
        rw [hQ]
        exact W.iret (v := o8.1) hx hb hr (fun t ht hW => ⟨⟨o8.1, o8.2, rfl, ⟨pr1 e9, pr2 e9⟩, ⟨by rw [ht]; exact hP, va_K.moved hW.alike hK, hD⟩⟩, hS.F ht⟩) hS.2.2 dX11_gap_44
    · have hf := it_t hf c2
      refine lv_aload_n hx hb dX11_gap_11 rfl (lv_at hl 0 rfl) ?_
      refine lv_iconst (v := (1 : Int32)) hx hb dX11_gap_12 (by decide) ?_
      obtain ⟨o9, go9, hf⟩ := bd_s hf
      refine rs_Vi (As := [.int (1 : Int32)]) (rest := []) ⟨hx, hb, hml, hown, hts⟩ (c_X11_no l D K F hMo H.size o1 (1 : Int32) o9 go9) (cwV 1 hts (gcV_X11_no (mB18 _ (List.mem_of_getElem? (i := 15) rfl))) rfl rfl rfl hdV_X11_no ⟨Nat.le_of_ble_eq_true rfl, Nat.le_of_ble_eq_true rfl⟩) hK hP hD hS hA (va_recv hK hP (ci := 10) (q0 := 0) rfl o_Mo) rfl hl.1 rfl (Nat.le_of_ble_eq_true rfl) dX11_gap_13 ⟨Nat.zero_le _, Nat.zero_le _⟩ (fun H locs hP hD hS => ?_)
      have hP : va_P D vwCl (wMo K hMo o9.2) H := hP
      have hD : va_D A (wMo K hMo o9.2) := hD
      have e9 := Option.some.inj hf
      rw [hQ]
      exact W.iret (v := o9.1) hx hb hr (fun t ht hW => ⟨⟨o9.1, o9.2, rfl, ⟨pr1 e9, pr2 e9⟩, ⟨by rw [ht]; exact hP, va_K.moved hW.alike hK, hD⟩⟩, hS.F ht⟩) hS.2.2 dX11_gap_16
  rw [hHe] at hgo
  exact hgo
