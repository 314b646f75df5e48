def wz_X11_begins : List Cond := .code yX11_begins cX11_begins 3 (some .boolean) :: wsL_law
abbrev r_X11_begins : Room := { frames := 5, cells := 0, slots := 0, locals := 108 }
set_option maxHeartbeats 4000000 in
set_option maxRecDepth 100000 in
theorem c_X11_begins (l : Launch) (D : va_G) (K : Nat → ClassId) (F : Nat) (adK adV : Nat → Nat) (tF : Nat) (hMo : Nat → Nat) (sz : Nat) (sMo : MS) (p1 : Nat) (p2 : Int32) (res : Int32 × MS) (hf : f_X11_begins F p2 p1 sMo = some res) : Met l yX11_begins wz_X11_begins r_X11_begins (va_Pc [.ref (hMo 99), .ref (adK p1), .int p2] (PWz D K adK adV tF (wMo K hMo sMo) sz)) (va_Qi (fun r u => r = res.1 ∧ u = res.2) (fun u t => BW D K (va_A (wMo K hMo sMo) sz) (wMo K hMo u) t) (va_A (wMo K hMo sMo) sz)) 0 0 (va_A (wMo K hMo sMo) sz) := by
  refine Met.ofW (cc := cX11_begins) (maxL := 3) (ret := (some .boolean)) (by decide) rfl ?_
  intro p e s m args below meth c s₁ B hml hv
  obtain ⟨hargs, ⟨hsz, hP, hK, hD0⟩, hZ⟩ := hv
  have hx := B.exec
  have hb := B.bytes
  have hr := B.returns
  have hts := atoms_spec (ws := wz_X11_begins) B.pre
  have htl : ∀ w ∈ wsL_law, w.before args s = true := fun w h => hts w (List.mem_cons_of_mem _ h)
  have hown : s.vm.findClass RX11 = some m.cls := findClass_of_methodNamed B.named
  have hlocks := B.notSynchronized
  subst hsz
  have hD := hD0.self (sz := s.heap.size)
  generalize hAe : va_A (wMo K hMo sMo) s.heap.size = A at hD hZ ⊢
  have hA : ∀ q : Nat, s.heap.size ≤ q → A q := fun q h => by rw [← hAe]; exact Or.inr h
  have hS : va_S A s.heap s.heap [] := va_S.rf
  have iX11 : ∀ w ∈ wsX110, w ∈ wz_X11_begins := fun w h => List.mem_cons_of_mem _ (inlX11 w h)
  suffices hgo : ∀ Q : State → Prop, Q = MQ below (va_Qi (fun r u => r = res.1 ∧ u = res.2) (fun u t => BW D K A (wMo K hMo u) t) A) args s 0 0 A → W p l e (headSpec wz_X11_begins r_X11_begins).room s m args below meth c s.heap [] 0 0 Q (entryFrame m args 3) from hgo _ rfl
  intro Q hQ
  have w43 : ∀ (sMo : MS), ∀ (H : Heap) (locs : List Loc) (ls : Array Slot), f_X11_begins_43 F p2 p1 sMo = some res → va_P D vwCl (wMo K hMo sMo) H → va_D A (wMo K hMo sMo) → va_S A s.heap H locs → lv_has ls 3 [(0, .ref (hMo 99))] → W p l e (headSpec wz_X11_begins r_X11_begins).room s m args below meth c H locs 0 0 Q (F0 m 43 ls []) := by
    intro sMo H locs ls hf hP hD hS hl
    unfold f_X11_begins_43 at hf
    refine lv_aload_n hx hb dX11_begins_43 rfl (lv_at hl 0 rfl) ?_
    refine va_get (D := D) (ci := 10) (v := .int (sMo.1 13)) (C := RX11) (T := TX11) (N := 41) hx hb hts iX11 hown hK hP 0 o_Mo rfl 13 (by decide) (htl _ (mB17 _ (List.mem_of_getElem? (i := 23) rfl))) (fun _ h9 => h9) rfl dX11_begins_44 ?_
    refine lv_if_ne (tgt := 54) hx hb dX11_begins_47 (by decide) (fun c9 => ?_) (fun c9 => ?_)
    · have hf := it_f hf c9
      refine lv_iconst (v := (1 : Int32)) hx hb dX11_begins_54 (by decide) ?_
      have e9 := Option.some.inj hf
      rw [hQ]
      exact W.zret (v := (1 : Int32)) hx hb hr rfl (fun t ht hW => ⟨⟨(1 : Int32), sMo, rfl, ⟨pr1 e9, pr2 e9⟩, ⟨by rw [ht]; exact hP, va_K.moved hW.alike hK, hD⟩⟩, hS.F ht⟩) hS.2.2 dX11_begins_55
    · have hf := it_t hf c9
      refine lv_aload_n hx hb dX11_begins_50 rfl (lv_at hl 0 rfl) ?_
      obtain ⟨o10, go10, hf⟩ := bd_s hf
      refine rs_Vv (As := []) (rest := []) ⟨hx, hb, hml, hown, hts⟩ (c_X11_next l D K F hMo H.size sMo o10 go10) (cwV 0 hts (gcV_X11_next (mB18 _ (List.mem_of_getElem? (i := 19) rfl))) rfl rfl rfl hdV_X11_next ⟨Nat.le_of_ble_eq_true rfl, Nat.le_of_ble_eq_true rfl⟩) hK hP hD hS hA (va_recv hK hP (ci := 10) (q0 := 0) rfl o_Mo) rfl hl.1 rfl (Nat.le_of_ble_eq_true rfl) dX11_begins_51 ⟨Nat.zero_le _, Nat.zero_le _⟩ (fun H locs hP hD hS => ?_)
      have hP : va_P D vwCl (wMo K hMo o10) H := hP
      have hD : va_D A (wMo K hMo o10) := hD
      refine lv_iconst (v := (1 : Int32)) hx hb dX11_begins_54 (by decide) ?_
      have e9 := Option.some.inj hf
      rw [hQ]
      exact W.zret (v := (1 : Int32)) hx hb hr rfl (fun t ht hW => ⟨⟨(1 : Int32), o10, rfl, ⟨pr1 e9, pr2 e9⟩, ⟨by rw [ht]; exact hP, va_K.moved hW.alike hK, hD⟩⟩, hS.F ht⟩) hS.2.2 dX11_begins_55
  have w23 : ∀ (sMo : MS), ∀ (H : Heap) (locs : List Loc) (ls : Array Slot), f_X11_begins_23 F p2 p1 sMo = some res → va_P D vwCl (wMo K hMo sMo) H → va_D A (wMo K hMo sMo) → va_S A s.heap H locs → lv_has ls 3 [(0, .ref (hMo 99))] → W p l e (headSpec wz_X11_begins r_X11_begins).room s m args below meth c H locs 0 0 Q (F0 m 23 ls []) := by
    intro sMo H locs ls hf hP hD hS hl
    unfold f_X11_begins_23 at hf
    refine lv_aload_n hx hb dX11_begins_23 rfl (lv_at hl 0 rfl) ?_
    refine va_get (D := D) (ci := 10) (v := .ref (hMo 16)) (C := RX11) (T := TX11) (N := 41) hx hb hts iX11 hown hK hP 0 o_Mo rfl 16 (by decide) (htl _ (mB6 _ (List.mem_of_getElem? (i := 4) rfl))) (fun _ h9 => h9) rfl dX11_begins_24 ?_
    refine lv_bipush (v := (10 : Int32)) hx hb dX11_begins_27 (by decide) ?_
    obtain ⟨g5, hf⟩ := gd_s hf
    refine va_iald hx hb hK hP 4 0 (f := sMo.2.2.1 16) a_Mo_16 rfl (vpb_in g5) dX11_begins_29 ?_
    refine lv_topi (fun v6 ev6 => ?_)
    have hf := lz_s hf v6 ev6
    refine lv_if_ne (tgt := 43) hx hb dX11_begins_30 (by decide) (fun c7 => ?_) (fun c7 => ?_)
    · have hf := it_f hf c7
      exact w43 sMo H locs ls hf hP hD hS (lv_sub hl [0] rfl)
    · have hf := it_t hf c7
      refine lv_aload_n hx hb dX11_begins_33 rfl (lv_at hl 0 rfl) ?_
      refine lv_bipush (v := (6 : Int32)) hx hb dX11_begins_34 (by decide) ?_
      refine lv_aload_n hx hb dX11_begins_36 rfl (lv_at hl 0 rfl) ?_
      refine va_get (D := D) (ci := 10) (v := .int (sMo.1 4)) (C := RX11) (T := TX11) (N := 41) hx hb hts iX11 hown hK hP 0 o_Mo rfl 4 (by decide) (htl _ (mB18 _ (List.mem_of_getElem? (i := 3) rfl))) (fun _ h9 => h9) rfl dX11_begins_37 ?_
      obtain ⟨o8, go8, hf⟩ := bd_s hf
      refine rs_Vv (As := [.int (6 : Int32), .int (sMo.1 4)]) (rest := []) ⟨hx, hb, hml, hown, hts⟩ (c_X11_wrong l D K F hMo H.size sMo (6 : Int32) (sMo.1 4) o8 go8) (cwV 2 hts (gcV_X11_wrong (mB20 _ (List.mem_of_getElem? (i := 1) rfl))) rfl rfl rfl hdV_X11_wrong ⟨Nat.le_of_ble_eq_true rfl, Nat.le_of_ble_eq_true rfl⟩) hK hP hD hS hA (va_recv hK hP (ci := 10) (q0 := 0) rfl o_Mo) rfl hl.1 rfl (Nat.le_of_ble_eq_true rfl) dX11_begins_40 ⟨Nat.zero_le _, Nat.zero_le _⟩ (fun H locs hP hD hS => ?_)
      have hP : va_P D vwCl (wMo K hMo o8) H := hP
      have hD : va_D A (wMo K hMo o8) := hD
      exact w43 o8 H locs ls hf hP hD hS (lv_sub hl [0] rfl)
  have hen : entryFrame m args 3 = entryFrame m (([.ref (hMo 99), .ref (adK p1), .int p2] : List Value).toArray) 3 := by rw [hargs]
  have hl := lv_entry ([.ref (hMo 99), .ref (adK p1), .int p2]) (n := 3) (Nat.le_of_ble_eq_true rfl)
  rw [hen, lg_entry_eq]
  generalize (lg_sl ([.ref (hMo 99), .ref (adK p1), .int p2]) ++ List.replicate (3 - (lg_sl ([.ref (hMo 99), .ref (adK p1), .int p2])).length) Slot.unset).toArray = ls at hl ⊢
  have hl : lv_has ls 3 [(0, .ref (hMo 99)), (1, .ref (adK p1)), (2, .int p2)] := hl
  unfold f_X11_begins at hf
  obtain ⟨H, hHe⟩ : ∃ z, z = s.heap := ⟨_, rfl⟩
  obtain ⟨locs, hLe⟩ : ∃ z : List Loc, z = [] := ⟨_, rfl⟩
  rw [← hLe]
  have hS : va_S A s.heap H locs := by rw [hHe, hLe]; exact hS
  have hP : va_P D vwCl (wMo K hMo sMo) H := by rw [hHe]; exact hP
  have hgo : W p l e (headSpec wz_X11_begins r_X11_begins).room s m args below meth c H locs 0 0 Q (F0 m 0 ls []) := by
    refine lv_aload_n hx hb dX11_begins_0 rfl (lv_at hl 0 rfl) ?_
    refine lv_aload_n hx hb dX11_begins_1 rfl (lv_at hl 1 rfl) ?_
    obtain ⟨o1, go1, hf⟩ := bd_s hf
    refine ro_Viz (As := [.ref (adK p1)]) (rest := []) ⟨hx, hb, hml, hown, hts⟩ (c_X11_isWord l D K F adK adV tF hMo sMo p1 o1 go1) (cwV 1 hts (gcV_X11_isWord (mB19 _ (List.mem_of_getElem? (i := 15) rfl))) rfl rfl rfl hdV_X11_isWord ⟨Nat.le_of_ble_eq_true rfl, Nat.le_of_ble_eq_true rfl⟩) hK hP hS hZ hP (va_recv hK hP (ci := 10) (q0 := 0) rfl o_Mo) rfl hl.1 rfl (Nat.le_of_ble_eq_true rfl) dX11_begins_2 ⟨Nat.zero_le _, Nat.zero_le _⟩ (fun H locs hP hS => ?_)
    refine lv_if_ne (tgt := 10) hx hb dX11_begins_5 (by decide) (fun c2 => ?_) (fun c2 => ?_)
    · have hf := it_f hf c2
      refine lv_iload_n hx hb dX11_begins_10 rfl (lv_at hl 2 rfl) ?_
      refine lv_if_ne (tgt := 23) hx hb dX11_begins_11 (by decide) (fun c3 => ?_) (fun c3 => ?_)
      · have hf := it_f hf c3
        exact w23 sMo H locs ls hf hP hD hS (lv_sub hl [0] rfl)
      · have hf := it_t hf c3
        refine lv_aload_n hx hb dX11_begins_14 rfl (lv_at hl 0 rfl) ?_
        refine lv_iconst (v := (5 : Int32)) hx hb dX11_begins_15 (by decide) ?_
        refine lv_aload_n hx hb dX11_begins_16 rfl (lv_at hl 0 rfl) ?_
        refine va_get (D := D) (ci := 10) (v := .int (sMo.1 4)) (C := RX11) (T := TX11) (N := 41) hx hb hts iX11 hown hK hP 0 o_Mo rfl 4 (by decide) (htl _ (mB18 _ (List.mem_of_getElem? (i := 3) rfl))) (fun _ h9 => h9) rfl dX11_begins_17 ?_
        obtain ⟨o4, go4, hf⟩ := bd_s hf
        refine rs_Vv (As := [.int (5 : Int32), .int (sMo.1 4)]) (rest := []) ⟨hx, hb, hml, hown, hts⟩ (c_X11_wrong l D K F hMo H.size sMo (5 : Int32) (sMo.1 4) o4 go4) (cwV 2 hts (gcV_X11_wrong (mB20 _ (List.mem_of_getElem? (i := 1) rfl))) rfl rfl rfl hdV_X11_wrong ⟨Nat.le_of_ble_eq_true rfl, Nat.le_of_ble_eq_true rfl⟩) hK hP hD hS hA (va_recv hK hP (ci := 10) (q0 := 0) rfl o_Mo) rfl hl.1 rfl (Nat.le_of_ble_eq_true rfl) dX11_begins_20 ⟨Nat.zero_le _, Nat.zero_le _⟩ (fun H locs hP hD hS => ?_)
        have hP : va_P D vwCl (wMo K hMo o4) H := hP
        have hD : va_D A (wMo K hMo o4) := hD
        exact w23 o4 H locs ls hf hP hD hS (lv_sub hl [0] rfl)
    · have hf := it_t hf c2
      refine lv_iconst (v := (0 : Int32)) hx hb dX11_begins_8 (by decide) ?_
      have e9 := Option.some.inj hf
      rw [hQ]
      exact W.zret (v := (0 : Int32)) hx hb hr rfl (fun t ht hW => ⟨⟨(0 : Int32), sMo, rfl, ⟨pr1 e9, pr2 e9⟩, ⟨by rw [ht]; exact hP, va_K.moved hW.alike hK, hD⟩⟩, hS.F ht⟩) hS.2.2 dX11_begins_9
  rw [hHe] at hgo
  exact hgo

def wz_X11_placeLine : List Cond := .code yX11_placeLine cX11_placeLine 3 none :: wsL_law
abbrev r_X11_placeLine : Room := { frames := 6, cells := 0, slots := 0, locals := 129 }
set_option maxHeartbeats 4000000 in
set_option maxRecDepth 100000 in
theorem c_X11_placeLine (l : Launch) (D : va_G) (K : Nat → ClassId) (F : Nat) (adK adV : Nat → Nat) (tF : Nat) (hMo : Nat → Nat) (sz : Nat) (sMo : MS) (res : MS) (hf : f_X11_placeLine F sMo = some res) : Met l yX11_placeLine wz_X11_placeLine r_X11_placeLine (va_Pc [.ref (hMo 99)] (PWz D K adK adV tF (wMo K hMo sMo) sz)) (va_Qv (fun u => u = res) (fun u t => BW D K (va_A (wMo K hMo sMo) sz) (wMo K hMo u) t) (va_A (wMo K hMo sMo) sz)) 0 0 (va_A (wMo K hMo sMo) sz) := by
  refine Met.ofW (cc := cX11_placeLine) (maxL := 3) (ret := none) (by decide) rfl ?_
  intro p e s m args below meth c s₁ B hml hv
  obtain ⟨hargs, ⟨hsz, hP, hK, hD0⟩, hZ⟩ := hv
  have hx := B.exec
  have hb := B.bytes
  have hr := B.returns
  have hts := atoms_spec (ws := wz_X11_placeLine) B.pre
  have htl : ∀ w ∈ wsL_law, w.before args s = true := fun w h => hts w (List.mem_cons_of_mem _ h)
  have hown : s.vm.findClass RX11 = some m.cls := findClass_of_methodNamed B.named
  have hlocks := B.notSynchronized
  subst hsz
  have hD := hD0.self (sz := s.heap.size)
  generalize hAe : va_A (wMo K hMo sMo) s.heap.size = A at hD hZ ⊢
  have hA : ∀ q : Nat, s.heap.size ≤ q → A q := fun q h => by rw [← hAe]; exact Or.inr h
  have hS : va_S A s.heap s.heap [] := va_S.rf
  have iX11 : ∀ w ∈ wsX110, w ∈ wz_X11_placeLine := fun w h => List.mem_cons_of_mem _ (inlX11 w h)
  suffices hgo : ∀ Q : State → Prop, Q = MQ below (va_Qv (fun u => u = res) (fun u t => BW D K A (wMo K hMo u) t) A) args s 0 0 A → W p l e (headSpec wz_X11_placeLine r_X11_placeLine).room s m args below meth c s.heap [] 0 0 Q (entryFrame m args 3) from hgo _ rfl
  intro Q hQ
  have w87 : ∀ (x1 : Int32), ∀ (sMo : MS), ∀ (H : Heap) (locs : List Loc) (ls : Array Slot), f_X11_placeLine_87 F x1 sMo = some res → va_P D vwCl (wMo K hMo sMo) H → va_D A (wMo K hMo sMo) → va_S A s.heap H locs → lv_has ls 3 [(0, .ref (hMo 99)), (1, .int x1)] → W p l e (headSpec wz_X11_placeLine r_X11_placeLine).room s m args below meth c H locs 0 0 Q (F0 m 87 ls []) := by
    intro x1 sMo H locs ls hf hP hD hS hl
    unfold f_X11_placeLine_87 at hf
    refine lv_aload_n hx hb dX11_placeLine_87 rfl (lv_at hl 0 rfl) ?_
    refine va_get (D := D) (ci := 10) (v := .ref (hMo 16)) (C := RX11) (T := TX11) (N := 41) hx hb hts iX11 hown hK hP 0 o_Mo rfl 16 (by decide) (htl _ (mB6 _ (List.mem_of_getElem? (i := 4) rfl))) (fun _ h9 => h9) rfl dX11_placeLine_88 ?_
    refine lv_sipush (v := (219 : Int32)) hx hb dX11_placeLine_91 (by decide) ?_
    refine lv_iload_n hx hb dX11_placeLine_94 rfl (lv_at hl 1 rfl) ?_
    refine lv_iadd hx hb dX11_placeLine_95 ?_
    refine lv_aload_n hx hb dX11_placeLine_96 rfl (lv_at hl 0 rfl) ?_
    refine va_get (D := D) (ci := 10) (v := .int (sMo.1 8)) (C := RX11) (T := TX11) (N := 41) hx hb hts iX11 hown hK hP 0 o_Mo rfl 8 (by decide) (htl _ (mB18 _ (List.mem_of_getElem? (i := 23) rfl))) (fun _ h9 => h9) rfl dX11_placeLine_97 ?_
    obtain ⟨g16, hf⟩ := gd_s hf
    refine va_iast hx hb hK hP hD hS 4 0 (f := sMo.2.2.1 16) a_Mo_16 rfl (vpb_in g16) dX11_placeLine_100 (fun H locs hP hD hS => ?_)
    have hP := cvP sa_Mo_16 hP
    have hD := cvD sa_Mo_16 hD
    obtain ⟨s17, es17⟩ : ∃ z, z = sA sMo 16 (((219 : Int32) + x1).toNatClampNeg) (sMo.1 8) := ⟨_, rfl⟩
    have hP : va_P D vwCl (wMo K hMo s17) H := by rw [es17]; exact hP
    have hD : va_D A (wMo K hMo s17) := by rw [es17]; exact hD
    have hf := lz_s hf s17 es17
    refine lv_aload_n hx hb dX11_placeLine_101 rfl (lv_at hl 0 rfl) ?_
    refine va_get (D := D) (ci := 10) (v := .ref (hMo 16)) (C := RX11) (T := TX11) (N := 41) hx hb hts iX11 hown hK hP 0 o_Mo rfl 16 (by decide) (htl _ (mB6 _ (List.mem_of_getElem? (i := 4) rfl))) (fun _ h9 => h9) rfl dX11_placeLine_102 ?_
    refine lv_iconst (v := (5 : Int32)) hx hb dX11_placeLine_105 (by decide) ?_
    refine lv_dup2_11 hx hb dX11_placeLine_106 rfl rfl ?_
    obtain ⟨g18, hf⟩ := gd_s hf
    refine va_iald hx hb hK hP 4 0 (f := s17.2.2.1 16) a_Mo_16 rfl (vpb_in g18) dX11_placeLine_107 ?_
    refine lv_topi (fun v19 ev19 => ?_)
    have hf := lz_s hf v19 ev19
    refine lv_iconst (v := (1 : Int32)) hx hb dX11_placeLine_108 (by decide) ?_
    refine lv_iadd hx hb dX11_placeLine_109 ?_
    obtain ⟨g20, hf⟩ := gd_s hf
    refine va_iast hx hb hK hP hD hS 4 0 (f := s17.2.2.1 16) a_Mo_16 rfl (vpb_in g20) dX11_placeLine_110 (fun H locs hP hD hS => ?_)
    have hP := cvP sa_Mo_16 hP
    have hD := cvD sa_Mo_16 hD
    obtain ⟨s21, es21⟩ : ∃ z, z = sA s17 16 ((5 : Int32).toNatClampNeg) (v19 + (1 : Int32)) := ⟨_, rfl⟩
    have hP : va_P D vwCl (wMo K hMo s21) H := by rw [es21]; exact hP
    have hD : va_D A (wMo K hMo s21) := by rw [es21]; exact hD
    have hf := lz_s hf s21 es21
    refine lv_aload_n hx hb dX11_placeLine_111 rfl (lv_at hl 0 rfl) ?_
    obtain ⟨o22, go22, hf⟩ := bd_s hf
    refine rs_Vv (As := []) (rest := []) ⟨hx, hb, hml, hown, hts⟩ (c_X11_next l D K F hMo H.size s21 o22 go22) (cwV 0 hts (gcV_X11_next (mB18 _ (List.mem_of_getElem? (i := 19) rfl))) rfl rfl rfl hdV_X11_next ⟨Nat.le_of_ble_eq_true rfl, Nat.le_of_ble_eq_true rfl⟩) hK hP hD hS hA (va_recv hK hP (ci := 10) (q0 := 0) rfl o_Mo) rfl hl.1 rfl (Nat.le_of_ble_eq_true rfl) dX11_placeLine_112 ⟨Nat.zero_le _, Nat.zero_le _⟩ (fun H locs hP hD hS => ?_)
    have hP : va_P D vwCl (wMo K hMo o22) H := hP
    have hD : va_D A (wMo K hMo o22) := hD
    have e9 := Option.some.inj hf
    rw [hQ]
    exact W.vret hx hb hr (fun t ht hW => ⟨⟨o22, rfl, e9, ⟨by rw [ht]; exact hP, va_K.moved hW.alike hK, hD⟩⟩, hS.F ht⟩) hS.2.2 dX11_placeLine_115
  have w52 : ∀ (n : Nat), ∀ (x1 : Int32), ∀ (x2 : Int32), ∀ (sMo : MS), ∀ (H : Heap) (locs : List Loc) (ls : Array Slot), f_X11_placeLine_52 F n x1 x2 sMo = some res → va_P D vwCl (wMo K hMo sMo) H → va_D A (wMo K hMo sMo) → va_S A s.heap H locs → lv_has ls 3 [(0, .ref (hMo 99)), (1, .int x1), (2, .int x2)] → W p l e (headSpec wz_X11_placeLine r_X11_placeLine).room s m args below meth c H locs 0 0 Q (F0 m 52 ls []) := by
    intro n
    induction n with
    | zero =>
      intro x1 x2 sMo H locs ls hf
      exact absurd (show none = some res from hf) (fun h => nomatch h)
    | succ n ih =>
      intro x1 x2 sMo H locs ls hf hP hD hS hl
      rw [f_X11_placeLine_52] at hf
      refine lv_iload_n hx hb dX11_placeLine_52 rfl (lv_at hl 2 rfl) ?_
      refine lv_aload_n hx hb dX11_placeLine_53 rfl (lv_at hl 0 rfl) ?_
      refine va_get (D := D) (ci := 10) (v := .int (sMo.1 8)) (C := RX11) (T := TX11) (N := 41) hx hb hts iX11 hown hK hP 0 o_Mo rfl 8 (by decide) (htl _ (mB18 _ (List.mem_of_getElem? (i := 23) rfl))) (fun _ h9 => h9) rfl dX11_placeLine_54 ?_
      refine lv_icmp_ge (tgt := 87) hx hb dX11_placeLine_57 (by decide) (fun c10 => ?_) (fun c10 => ?_)
      · have hf := it_t hf c10
        exact w87 x1 sMo H locs ls hf hP hD hS (lv_sub hl [0, 1] rfl)
      · have hf := it_f hf c10
        refine lv_aload_n hx hb dX11_placeLine_60 rfl (lv_at hl 0 rfl) ?_
        refine va_get (D := D) (ci := 10) (v := .ref (hMo 16)) (C := RX11) (T := TX11) (N := 41) hx hb hts iX11 hown hK hP 0 o_Mo rfl 16 (by decide) (htl _ (mB6 _ (List.mem_of_getElem? (i := 4) rfl))) (fun _ h9 => h9) rfl dX11_placeLine_61 ?_
        refine lv_sipush (v := (228 : Int32)) hx hb dX11_placeLine_64 (by decide) ?_
        refine lv_bipush (v := (8 : Int32)) hx hb dX11_placeLine_67 (by decide) ?_
        refine lv_iload_n hx hb dX11_placeLine_69 rfl (lv_at hl 1 rfl) ?_
        refine lv_imul hx hb dX11_placeLine_70 ?_
        refine lv_iadd hx hb dX11_placeLine_71 ?_
        refine lv_iload_n hx hb dX11_placeLine_72 rfl (lv_at hl 2 rfl) ?_
        refine lv_iadd hx hb dX11_placeLine_73 ?_
        refine lv_aload_n hx hb dX11_placeLine_74 rfl (lv_at hl 0 rfl) ?_
        refine va_get (D := D) (ci := 10) (v := .ref (hMo 12)) (C := RX11) (T := TX11) (N := 41) hx hb hts iX11 hown hK hP 0 o_Mo rfl 12 (by decide) (htl _ (mB6 _ (List.mem_of_getElem? (i := 2) rfl))) (fun _ h9 => h9) rfl dX11_placeLine_75 ?_
        refine lv_iload_n hx hb dX11_placeLine_78 rfl (lv_at hl 2 rfl) ?_
        obtain ⟨g11, hf⟩ := gd_s hf
        refine va_iald hx hb hK hP 2 0 (f := sMo.2.2.1 12) a_Mo_12 rfl (vpb_in g11) dX11_placeLine_79 ?_
        refine lv_topi (fun v12 ev12 => ?_)
        have hf := lz_s hf v12 ev12
        obtain ⟨g13, hf⟩ := gd_s hf
        refine va_iast hx hb hK hP hD hS 4 0 (f := sMo.2.2.1 16) a_Mo_16 rfl (vpb_in g13) dX11_placeLine_80 (fun H locs hP hD hS => ?_)
        have hP := cvP sa_Mo_16 hP
        have hD := cvD sa_Mo_16 hD
        obtain ⟨s14, es14⟩ : ∃ z, z = sA sMo 16 ((((228 : Int32) + ((8 : Int32) * x1)) + x2).toNatClampNeg) v12 := ⟨_, rfl⟩
        have hP : va_P D vwCl (wMo K hMo s14) H := by rw [es14]; exact hP
        have hD : va_D A (wMo K hMo s14) := by rw [es14]; exact hD
        have hf := lz_s hf s14 es14
        obtain ⟨v15, ev15⟩ : ∃ z : Int32, z = x2 + (1 : Int32) := ⟨_, rfl⟩
        have hf := lz_s hf v15 ev15
        refine lv_iinc (v := v15) (lv' := [(2, .int v15), (0, .ref (hMo 99)), (1, .int x1)]) hx hb dX11_placeLine_81 hl (k := 2) rfl (by rw [ev15]; rfl) (by decide) rfl (fun ls hl => ?_)
        refine lv_goto (tgt := 52) hx hb dX11_placeLine_84 (by decide) ?_
        exact ih x1 v15 s14 H locs ls hf hP hD hS (lv_sub hl [1, 2, 0] rfl)
  have w35 : ∀ (sMo : MS), ∀ (H : Heap) (locs : List Loc) (ls : Array Slot), f_X11_placeLine_35 F sMo = some res → va_P D vwCl (wMo K hMo sMo) H → va_D A (wMo K hMo sMo) → va_S A s.heap H locs → lv_has ls 3 [(0, .ref (hMo 99))] → W p l e (headSpec wz_X11_placeLine r_X11_placeLine).room s m args below meth c H locs 0 0 Q (F0 m 35 ls []) := by
    intro sMo H locs ls hf hP hD hS hl
    unfold f_X11_placeLine_35 at hf
    refine lv_aload_n hx hb dX11_placeLine_35 rfl (lv_at hl 0 rfl) ?_
    refine va_get (D := D) (ci := 10) (v := .int (sMo.1 13)) (C := RX11) (T := TX11) (N := 41) hx hb hts iX11 hown hK hP 0 o_Mo rfl 13 (by decide) (htl _ (mB17 _ (List.mem_of_getElem? (i := 23) rfl))) (fun _ h9 => h9) rfl dX11_placeLine_36 ?_
    refine lv_if_eq (tgt := 43) hx hb dX11_placeLine_39 (by decide) (fun c7 => ?_) (fun c7 => ?_)
    · have hf := it_t hf c7
      refine lv_aload_n hx hb dX11_placeLine_43 rfl (lv_at hl 0 rfl) ?_
      refine va_get (D := D) (ci := 10) (v := .ref (hMo 16)) (C := RX11) (T := TX11) (N := 41) hx hb hts iX11 hown hK hP 0 o_Mo rfl 16 (by decide) (htl _ (mB6 _ (List.mem_of_getElem? (i := 4) rfl))) (fun _ h9 => h9) rfl dX11_placeLine_44 ?_
      refine lv_iconst (v := (5 : Int32)) hx hb dX11_placeLine_47 (by decide) ?_
      obtain ⟨g8, hf⟩ := gd_s hf
      refine va_iald hx hb hK hP 4 0 (f := sMo.2.2.1 16) a_Mo_16 rfl (vpb_in g8) dX11_placeLine_48 ?_
      refine lv_topi (fun v9 ev9 => ?_)
      have hf := lz_s hf v9 ev9
      refine lv_istore_n (lv' := [(1, .int v9), (0, .ref (hMo 99))]) hx hb dX11_placeLine_49 rfl hl (by decide) rfl (fun ls hl => ?_)
      refine lv_iconst (v := (0 : Int32)) hx hb dX11_placeLine_50 (by decide) ?_
      refine lv_istore_n (lv' := [(2, .int (0 : Int32)), (1, .int v9), (0, .ref (hMo 99))]) hx hb dX11_placeLine_51 rfl hl (by decide) rfl (fun ls hl => ?_)
      exact w52 F v9 (0 : Int32) sMo H locs ls hf hP hD hS (lv_sub hl [2, 1, 0] rfl)
    · have hf := it_f hf c7
      have e9 := Option.some.inj hf
      rw [hQ]
      exact W.vret hx hb hr (fun t ht hW => ⟨⟨sMo, rfl, e9, ⟨by rw [ht]; exact hP, va_K.moved hW.alike hK, hD⟩⟩, hS.F ht⟩) hS.2.2 dX11_placeLine_42
  have hen : entryFrame m args 3 = entryFrame m (([.ref (hMo 99)] : List Value).toArray) 3 := by rw [hargs]
  have hl := lv_entry ([.ref (hMo 99)]) (n := 3) (Nat.le_of_ble_eq_true rfl)
  rw [hen, lg_entry_eq]
  generalize (lg_sl ([.ref (hMo 99)]) ++ List.replicate (3 - (lg_sl ([.ref (hMo 99)])).length) Slot.unset).toArray = ls at hl ⊢
  have hl : lv_has ls 3 [(0, .ref (hMo 99))] := hl
  unfold f_X11_placeLine at hf
  obtain ⟨H, hHe⟩ : ∃ z, z = s.heap := ⟨_, rfl⟩
  obtain ⟨locs, hLe⟩ : ∃ z : List Loc, z = [] := ⟨_, rfl⟩
  rw [← hLe]
  have hS : va_S A s.heap H locs := by rw [hHe, hLe]; exact hS
  have hP : va_P D vwCl (wMo K hMo sMo) H := by rw [hHe]; exact hP
  have hgo : W p l e (headSpec wz_X11_placeLine r_X11_placeLine).room s m args below meth c H locs 0 0 Q (F0 m 0 ls []) := by
    refine lv_aload_n hx hb dX11_placeLine_0 rfl (lv_at hl 0 rfl) ?_
    refine va_get (D := D) (ci := 10) (v := .int (sMo.1 13)) (C := RX11) (T := TX11) (N := 41) hx hb hts iX11 hown hK hP 0 o_Mo rfl 13 (by decide) (htl _ (mB17 _ (List.mem_of_getElem? (i := 23) rfl))) (fun _ h9 => h9) rfl dX11_placeLine_1 ?_
    refine lv_if_eq (tgt := 8) hx hb dX11_placeLine_4 (by decide) (fun c1 => ?_) (fun c1 => ?_)
    · have hf := it_t hf c1
      refine lv_aload_n hx hb dX11_placeLine_8 rfl (lv_at hl 0 rfl) ?_
      obtain ⟨o2, go2, hf⟩ := bd_s hf
      refine rs_Vvz (As := []) (rest := []) ⟨hx, hb, hml, hown, hts⟩ (c_X11_mustName l D K F adK adV tF hMo H.size sMo o2 go2) (cwV 0 hts (gcV_X11_mustName (mB21 _ (List.mem_of_getElem? (i := 13) rfl))) rfl rfl rfl hdV_X11_mustName ⟨Nat.le_of_ble_eq_true rfl, Nat.le_of_ble_eq_true rfl⟩) hK hP hD hS hA hZ (va_recv hK hP (ci := 10) (q0 := 0) rfl o_Mo) rfl hl.1 rfl (Nat.le_of_ble_eq_true rfl) dX11_placeLine_9 ⟨Nat.zero_le _, Nat.zero_le _⟩ (fun H locs hP hD hS => ?_)
      have hP : va_P D vwCl (wMo K hMo o2) H := hP
      have hD : va_D A (wMo K hMo o2) := hD
      refine lv_aload_n hx hb dX11_placeLine_12 rfl (lv_at hl 0 rfl) ?_
      refine va_get (D := D) (ci := 10) (v := .int (o2.1 13)) (C := RX11) (T := TX11) (N := 41) hx hb hts iX11 hown hK hP 0 o_Mo rfl 13 (by decide) (htl _ (mB17 _ (List.mem_of_getElem? (i := 23) rfl))) (fun _ h9 => h9) rfl dX11_placeLine_13 ?_
      refine lv_if_ne (tgt := 35) hx hb dX11_placeLine_16 (by decide) (fun c3 => ?_) (fun c3 => ?_)
      · have hf := it_f hf c3
        exact w35 o2 H locs ls hf hP hD hS (lv_sub hl [0] rfl)
      · have hf := it_t hf c3
        refine lv_aload_n hx hb dX11_placeLine_19 rfl (lv_at hl 0 rfl) ?_
        obtain ⟨o4, go4, hf⟩ := bd_s hf
        refine ro_Vi (As := []) (rest := []) ⟨hx, hb, hml, hown, hts⟩ (c_X11_find l D K F hMo o2 o4 go4) (cwV 0 hts (gcV_X11_find (mB21 _ (List.mem_of_getElem? (i := 17) rfl))) rfl rfl rfl hdV_X11_find ⟨Nat.le_of_ble_eq_true rfl, Nat.le_of_ble_eq_true rfl⟩) hK hP hS hP (va_recv hK hP (ci := 10) (q0 := 0) rfl o_Mo) rfl hl.1 rfl (Nat.le_of_ble_eq_true rfl) dX11_placeLine_20 ⟨Nat.zero_le _, Nat.zero_le _⟩ (fun H locs hP hS => ?_)
        refine lv_if_lt (tgt := 35) hx hb dX11_placeLine_23 (by decide) (fun c5 => ?_) (fun c5 => ?_)
        · have hf := it_t hf c5
          exact w35 o2 H locs ls hf hP hD hS (lv_sub hl [0] rfl)
        · have hf := it_f hf c5
          refine lv_aload_n hx hb dX11_placeLine_26 rfl (lv_at hl 0 rfl) ?_
          refine lv_iconst (v := (3 : Int32)) hx hb dX11_placeLine_27 (by decide) ?_
          refine lv_aload_n hx hb dX11_placeLine_28 rfl (lv_at hl 0 rfl) ?_
          refine va_get (D := D) (ci := 10) (v := .int (o2.1 4)) (C := RX11) (T := TX11) (N := 41) hx hb hts iX11 hown hK hP 0 o_Mo rfl 4 (by decide) (htl _ (mB18 _ (List.mem_of_getElem? (i := 3) rfl))) (fun _ h9 => h9) rfl dX11_placeLine_29 ?_
          obtain ⟨o6, go6, hf⟩ := bd_s hf
          refine rs_Vv (As := [.int (3 : Int32), .int (o2.1 4)]) (rest := []) ⟨hx, hb, hml, hown, hts⟩ (c_X11_wrong l D K F hMo H.size o2 (3 : Int32) (o2.1 4) o6 go6) (cwV 2 hts (gcV_X11_wrong (mB20 _ (List.mem_of_getElem? (i := 1) rfl))) rfl rfl rfl hdV_X11_wrong ⟨Nat.le_of_ble_eq_true rfl, Nat.le_of_ble_eq_true rfl⟩) hK hP hD hS hA (va_recv hK hP (ci := 10) (q0 := 0) rfl o_Mo) rfl hl.1 rfl (Nat.le_of_ble_eq_true rfl) dX11_placeLine_32 ⟨Nat.zero_le _, Nat.zero_le _⟩ (fun H locs hP hD hS => ?_)
          have hP : va_P D vwCl (wMo K hMo o6) H := hP
          have hD : va_D A (wMo K hMo o6) := hD
          exact w35 o6 H locs ls hf hP hD hS (lv_sub hl [0] rfl)
    · have hf := it_f hf c1
      have e9 := Option.some.inj hf
      rw [hQ]
      exact W.vret hx hb hr (fun t ht hW => ⟨⟨sMo, rfl, e9, ⟨by rw [ht]; exact hP, va_K.moved hW.alike hK, hD⟩⟩, hS.F ht⟩) hS.2.2 dX11_placeLine_7
  rw [hHe] at hgo
  exact hgo

theorem gcV_X11_placePassed {T0 : Cond} {own : String} {i : Nat} (h : Cond.methodLink own i yX11_placePassed ∈ wsL_law) : GoodIn (T0 :: wsL_law) (wsV own i RX11 yX11_placePassed wz_X11_placePassed) := gV h (mB22 _ (List.mem_of_getElem? (i := 2) rfl)) (mB22 _ (List.mem_of_getElem? (i := 3) rfl)) (mB1 _ (List.mem_of_getElem? (i := 5) rfl)) (mB22 _ (List.mem_of_getElem? (i := 4) rfl))
theorem hdV_X11_placePassed : yX11_placePassed.cls = RX11 ∧ yX11_placePassed.cls ≠ "java/lang/invoke/MethodHandle" ∧ yX11_placePassed.cls ≠ "java/lang/invoke/VarHandle" ∧ (parseMethodDescriptor yX11_placePassed.desc).map (fun d => d.parameters.length) = some 0 := by decide +kernel
def wz_X11_roadLine : List Cond := .code yX11_roadLine cX11_roadLine 5 none :: wsL_law
abbrev r_X11_roadLine : Room := { frames := 8, cells := 0, slots := 0, locals := 173 }
set_option maxHeartbeats 4000000 in
set_option maxRecDepth 100000 in
theorem c_X11_roadLine (l : Launch) (D : va_G) (K : Nat → ClassId) (F : Nat) (adK adV : Nat → Nat) (tF : Nat) (hMo : Nat → Nat) (sz : Nat) (sMo : MS) (res : MS) (hf : f_X11_roadLine F sMo = some res) : Met l yX11_roadLine wz_X11_roadLine r_X11_roadLine (va_Pc [.ref (hMo 99)] (PWz D K adK adV tF (wMo K hMo sMo) sz)) (va_Qv (fun u => u = res) (fun u t => BW D K (va_A (wMo K hMo sMo) sz) (wMo K hMo u) t) (va_A (wMo K hMo sMo) sz)) 0 0 (va_A (wMo K hMo sMo) sz) := by
  refine Met.ofW (cc := cX11_roadLine) (maxL := 5) (ret := none) (by decide) rfl ?_
  intro p e s m args below meth c s₁ B hml hv
  obtain ⟨hargs, ⟨hsz, hP, hK, hD0⟩, hZ⟩ := hv
  have hx := B.exec
  have hb := B.bytes
  have hr := B.returns
  have hts := atoms_spec (ws := wz_X11_roadLine) B.pre
  have htl : ∀ w ∈ wsL_law, w.before args s = true := fun w h => hts w (List.mem_cons_of_mem _ h)
  have hown : s.vm.findClass RX11 = some m.cls := findClass_of_methodNamed B.named
  have hlocks := B.notSynchronized
  subst hsz
  have hD := hD0.self (sz := s.heap.size)
  generalize hAe : va_A (wMo K hMo sMo) s.heap.size = A at hD hZ ⊢
  have hA : ∀ q : Nat, s.heap.size ≤ q → A q := fun q h => by rw [← hAe]; exact Or.inr h
  have hS : va_S A s.heap s.heap [] := va_S.rf
  have iX11 : ∀ w ∈ wsX110, w ∈ wz_X11_roadLine := fun w h => List.mem_cons_of_mem _ (inlX11 w h)
  suffices hgo : ∀ Q : State → Prop, Q = MQ below (va_Qv (fun u => u = res) (fun u t => BW D K A (wMo K hMo u) t) A) args s 0 0 A → W p l e (headSpec wz_X11_roadLine r_X11_roadLine).room s m args below meth c s.heap [] 0 0 Q (entryFrame m args 5) from hgo _ rfl
  intro Q hQ
  have w56 : ∀ (x1 : Int32), ∀ (x2 : Int32), ∀ (sMo : MS), ∀ (H : Heap) (locs : List Loc) (ls : Array Slot), f_X11_roadLine_56 F x1 x2 sMo = some res → va_P D vwCl (wMo K hMo sMo) H → va_D A (wMo K hMo sMo) → va_S A s.heap H locs → lv_has ls 5 [(0, .ref (hMo 99)), (1, .int x1), (2, .int x2)] → W p l e (headSpec wz_X11_roadLine r_X11_roadLine).room s m args below meth c H locs 0 0 Q (F0 m 56 ls []) := by
    intro x1 x2 sMo H locs ls hf hP hD hS hl
    unfold f_X11_roadLine_56 at hf
    refine lv_aload_n hx hb dX11_roadLine_56 rfl (lv_at hl 0 rfl) ?_
    refine va_get (D := D) (ci := 10) (v := .int (sMo.1 13)) (C := RX11) (T := TX11) (N := 41) hx hb hts iX11 hown hK hP 0 o_Mo rfl 13 (by decide) (htl _ (mB17 _ (List.mem_of_getElem? (i := 23) rfl))) (fun _ h9 => h9) rfl dX11_roadLine_57 ?_
    refine lv_if_eq (tgt := 64) hx hb dX11_roadLine_60 (by decide) (fun c10 => ?_) (fun c10 => ?_)
    · have hf := it_t hf c10
      refine lv_aload_n hx hb dX11_roadLine_64 rfl (lv_at hl 0 rfl) ?_
      obtain ⟨o11, go11, hf⟩ := bd_s hf
      refine rs_Vv (As := []) (rest := []) ⟨hx, hb, hml, hown, hts⟩ (c_X11_next l D K F hMo H.size sMo o11 go11) (cwV 0 hts (gcV_X11_next (mB18 _ (List.mem_of_getElem? (i := 19) rfl))) rfl rfl rfl hdV_X11_next ⟨Nat.le_of_ble_eq_true rfl, Nat.le_of_ble_eq_true rfl⟩) hK hP hD hS hA (va_recv hK hP (ci := 10) (q0 := 0) rfl o_Mo) rfl hl.1 rfl (Nat.le_of_ble_eq_true rfl) dX11_roadLine_65 ⟨Nat.zero_le _, Nat.zero_le _⟩ (fun H locs hP hD hS => ?_)
      have hP : va_P D vwCl (wMo K hMo o11) H := hP
      have hD : va_D A (wMo K hMo o11) := hD
      refine lv_aload_n hx hb dX11_roadLine_68 rfl (lv_at hl 0 rfl) ?_
      refine va_ldcS (own := RX11) (index := 243) (tx := "takes") (q := adK 10) hx hb hown (hZ.2.2.2 (RX11, 243, "takes", 10) (List.mem_of_getElem? (i := 11) rfl)) dX11_roadLine_69 ?_
      refine lv_iconst (v := (1 : Int32)) hx hb dX11_roadLine_71 (by decide) ?_
      refine lv_bipush (v := (40 : Int32)) hx hb dX11_roadLine_72 (by decide) ?_
      obtain ⟨o12, go12, hf⟩ := bd_s hf
      refine rs_Viz (As := [.ref (adK 10), .int (1 : Int32), .int (40 : Int32)]) (rest := []) ⟨hx, hb, hml, hown, hts⟩ (c_X11_after l D K F adK adV tF hMo H.size o11 10 (1 : Int32) (40 : Int32) o12 go12) (cwV 3 hts (gcV_X11_after (mB20 _ (List.mem_of_getElem? (i := 5) rfl))) rfl rfl rfl hdV_X11_after ⟨Nat.le_of_ble_eq_true rfl, Nat.le_of_ble_eq_true rfl⟩) hK hP hD hS hA hZ (va_recv hK hP (ci := 10) (q0 := 0) rfl o_Mo) rfl hl.1 rfl (Nat.le_of_ble_eq_true rfl) dX11_roadLine_74 ⟨Nat.zero_le _, Nat.zero_le _⟩ (fun H locs hP hD hS => ?_)
      have hP : va_P D vwCl (wMo K hMo o12.2) H := hP
      have hD : va_D A (wMo K hMo o12.2) := hD
      refine lv_istore_n (lv' := [(3, .int o12.1), (0, .ref (hMo 99)), (1, .int x1), (2, .int x2)]) hx hb dX11_roadLine_77 rfl hl (by decide) rfl (fun ls hl => ?_)
      refine lv_aload_n hx hb dX11_roadLine_78 rfl (lv_at hl 1 rfl) ?_
      refine va_ldcS (own := RX11) (index := 245) (tx := "minutes") (q := adK 11) hx hb hown (hZ.2.2.2 (RX11, 245, "minutes", 11) (List.mem_of_getElem? (i := 12) rfl)) dX11_roadLine_79 ?_
      refine lv_iconst (v := (0 : Int32)) hx hb dX11_roadLine_81 (by decide) ?_
      refine lv_bipush (v := (99 : Int32)) hx hb dX11_roadLine_82 (by decide) ?_
      obtain ⟨o13, go13, hf⟩ := bd_s hf
      refine rs_Viz (As := [.ref (adK 11), .int (0 : Int32), .int (99 : Int32)]) (rest := []) ⟨hx, hb, hml, hown, hts⟩ (c_X11_after l D K F adK adV tF hMo H.size o12.2 11 (0 : Int32) (99 : Int32) o13 go13) (cwV 3 hts (gcV_X11_after (mB20 _ (List.mem_of_getElem? (i := 5) rfl))) rfl rfl rfl hdV_X11_after ⟨Nat.le_of_ble_eq_true rfl, Nat.le_of_ble_eq_true rfl⟩) hK hP hD hS hA hZ (va_recv hK hP (ci := 10) (q0 := 0) rfl o_Mo) rfl hl.1 rfl (Nat.le_of_ble_eq_true rfl) dX11_roadLine_84 ⟨Nat.zero_le _, Nat.zero_le _⟩ (fun H locs hP hD hS => ?_)
      have hP : va_P D vwCl (wMo K hMo o13.2) H := hP
      have hD : va_D A (wMo K hMo o13.2) := hD
      refine lv_istore (lv' := [(4, .int o13.1), (3, .int o12.1), (0, .ref (hMo 99)), (1, .int x1), (2, .int x2)]) hx hb dX11_roadLine_87 hl (by decide) rfl (fun ls hl => ?_)
      refine lv_aload_n hx hb dX11_roadLine_89 rfl (lv_at hl 2 rfl) ?_
      refine va_get (D := D) (ci := 10) (v := .int (o13.2.1 13)) (C := RX11) (T := TX11) (N := 41) hx hb hts iX11 hown hK hP 0 o_Mo rfl 13 (by decide) (htl _ (mB17 _ (List.mem_of_getElem? (i := 23) rfl))) (fun _ h9 => h9) rfl dX11_roadLine_90 ?_
      refine lv_if_eq (tgt := 97) hx hb dX11_roadLine_93 (by decide) (fun c14 => ?_) (fun c14 => ?_)
      · have hf := it_t hf c14
        refine lv_aload_n hx hb dX11_roadLine_97 rfl (lv_at hl 2 rfl) ?_
        refine va_get (D := D) (ci := 10) (v := .ref (hMo 16)) (C := RX11) (T := TX11) (N := 41) hx hb hts iX11 hown hK hP 0 o_Mo rfl 16 (by decide) (htl _ (mB6 _ (List.mem_of_getElem? (i := 4) rfl))) (fun _ h9 => h9) rfl dX11_roadLine_98 ?_
        refine lv_bipush (v := (38 : Int32)) hx hb dX11_roadLine_101 (by decide) ?_
        refine lv_bipush (v := (9 : Int32)) hx hb dX11_roadLine_103 (by decide) ?_
        refine lv_iload_n hx hb dX11_roadLine_105 rfl (lv_at hl 3 rfl) ?_
        refine lv_imul hx hb dX11_roadLine_106 ?_
        refine lv_iadd hx hb dX11_roadLine_107 ?_
        refine lv_iload_n hx hb dX11_roadLine_108 rfl (lv_at hl 4 rfl) ?_
        refine lv_iadd hx hb dX11_roadLine_109 ?_
        refine lv_iload_n hx hb dX11_roadLine_110 rfl (lv_at hl 1 rfl) ?_
        obtain ⟨g15, hf⟩ := gd_s hf
        refine va_iast hx hb hK hP hD hS 4 0 (f := o13.2.2.2.1 16) a_Mo_16 rfl (vpb_in g15) dX11_roadLine_111 (fun H locs hP hD hS => ?_)
        have hP := cvP sa_Mo_16 hP
        have hD := cvD sa_Mo_16 hD
        obtain ⟨s16, es16⟩ : ∃ z, z = sA o13.2 16 ((((38 : Int32) + ((9 : Int32) * x1)) + x2).toNatClampNeg) o12.1 := ⟨_, rfl⟩
        have hP : va_P D vwCl (wMo K hMo s16) H := by rw [es16]; exact hP
        have hD : va_D A (wMo K hMo s16) := by rw [es16]; exact hD
        have hf := lz_s hf s16 es16
        refine lv_aload_n hx hb dX11_roadLine_112 rfl (lv_at hl 2 rfl) ?_
        refine va_get (D := D) (ci := 10) (v := .ref (hMo 16)) (C := RX11) (T := TX11) (N := 41) hx hb hts iX11 hown hK hP 0 o_Mo rfl 16 (by decide) (htl _ (mB6 _ (List.mem_of_getElem? (i := 4) rfl))) (fun _ h9 => h9) rfl dX11_roadLine_113 ?_
        refine lv_bipush (v := (38 : Int32)) hx hb dX11_roadLine_116 (by decide) ?_
        refine lv_bipush (v := (9 : Int32)) hx hb dX11_roadLine_118 (by decide) ?_
        refine lv_iload_n hx hb dX11_roadLine_120 rfl (lv_at hl 4 rfl) ?_
        refine lv_imul hx hb dX11_roadLine_121 ?_
        refine lv_iadd hx hb dX11_roadLine_122 ?_
        refine lv_iload_n hx hb dX11_roadLine_123 rfl (lv_at hl 3 rfl) ?_
        refine lv_iadd hx hb dX11_roadLine_124 ?_
        refine lv_iload_n hx hb dX11_roadLine_125 rfl (lv_at hl 1 rfl) ?_
        obtain ⟨g17, hf⟩ := gd_s hf
        refine va_iast hx hb hK hP hD hS 4 0 (f := s16.2.2.1 16) a_Mo_16 rfl (vpb_in g17) dX11_roadLine_126 (fun H locs hP hD hS => ?_)
        have hP := cvP sa_Mo_16 hP
        have hD := cvD sa_Mo_16 hD
        obtain ⟨s18, es18⟩ : ∃ z, z = sA s16 16 ((((38 : Int32) + ((9 : Int32) * x2)) + x1).toNatClampNeg) o12.1 := ⟨_, rfl⟩
        have hP : va_P D vwCl (wMo K hMo s18) H := by rw [es18]; exact hP
        have hD : va_D A (wMo K hMo s18) := by rw [es18]; exact hD
        have hf := lz_s hf s18 es18
        refine lv_aload_n hx hb dX11_roadLine_127 rfl (lv_at hl 2 rfl) ?_
        refine va_get (D := D) (ci := 10) (v := .ref (hMo 16)) (C := RX11) (T := TX11) (N := 41) hx hb hts iX11 hown hK hP 0 o_Mo rfl 16 (by decide) (htl _ (mB6 _ (List.mem_of_getElem? (i := 4) rfl))) (fun _ h9 => h9) rfl dX11_roadLine_128 ?_
        refine lv_bipush (v := (119 : Int32)) hx hb dX11_roadLine_131 (by decide) ?_
        refine lv_bipush (v := (9 : Int32)) hx hb dX11_roadLine_133 (by decide) ?_
        refine lv_iload_n hx hb dX11_roadLine_135 rfl (lv_at hl 3 rfl) ?_
        refine lv_imul hx hb dX11_roadLine_136 ?_
        refine lv_iadd hx hb dX11_roadLine_137 ?_
        refine lv_iload_n hx hb dX11_roadLine_138 rfl (lv_at hl 4 rfl) ?_
        refine lv_iadd hx hb dX11_roadLine_139 ?_
        refine lv_iload hx hb dX11_roadLine_140 (lv_at hl 0 rfl) ?_
        obtain ⟨g19, hf⟩ := gd_s hf
        refine va_iast hx hb hK hP hD hS 4 0 (f := s18.2.2.1 16) a_Mo_16 rfl (vpb_in g19) dX11_roadLine_142 (fun H locs hP hD hS => ?_)
        have hP := cvP sa_Mo_16 hP
        have hD := cvD sa_Mo_16 hD
        obtain ⟨s20, es20⟩ : ∃ z, z = sA s18 16 ((((119 : Int32) + ((9 : Int32) * x1)) + x2).toNatClampNeg) o13.1 := ⟨_, rfl⟩
        have hP : va_P D vwCl (wMo K hMo s20) H := by rw [es20]; exact hP
        have hD : va_D A (wMo K hMo s20) := by rw [es20]; exact hD
        have hf := lz_s hf s20 es20
        refine lv_aload_n hx hb dX11_roadLine_143 rfl (lv_at hl 2 rfl) ?_
        refine va_get (D := D) (ci := 10) (v := .ref (hMo 16)) (C := RX11) (T := TX11) (N := 41) hx hb hts iX11 hown hK hP 0 o_Mo rfl 16 (by decide) (htl _ (mB6 _ (List.mem_of_getElem? (i := 4) rfl))) (fun _ h9 => h9) rfl dX11_roadLine_144 ?_
        refine lv_bipush (v := (119 : Int32)) hx hb dX11_roadLine_147 (by decide) ?_
        refine lv_bipush (v := (9 : Int32)) hx hb dX11_roadLine_149 (by decide) ?_
        refine lv_iload_n hx hb dX11_roadLine_151 rfl (lv_at hl 4 rfl) ?_
        refine lv_imul hx hb dX11_roadLine_152 ?_
        refine lv_iadd hx hb dX11_roadLine_153 ?_
        refine lv_iload_n hx hb dX11_roadLine_154 rfl (lv_at hl 3 rfl) ?_
        refine lv_iadd hx hb dX11_roadLine_155 ?_
        refine lv_iload hx hb dX11_roadLine_156 (lv_at hl 0 rfl) ?_
        obtain ⟨g21, hf⟩ := gd_s hf
        refine va_iast hx hb hK hP hD hS 4 0 (f := s20.2.2.1 16) a_Mo_16 rfl (vpb_in g21) dX11_roadLine_158 (fun H locs hP hD hS => ?_)
        have hP := cvP sa_Mo_16 hP
        have hD := cvD sa_Mo_16 hD
        obtain ⟨s22, es22⟩ : ∃ z, z = sA s20 16 ((((119 : Int32) + ((9 : Int32) * x2)) + x1).toNatClampNeg) o13.1 := ⟨_, rfl⟩
        have hP : va_P D vwCl (wMo K hMo s22) H := by rw [es22]; exact hP
        have hD : va_D A (wMo K hMo s22) := by rw [es22]; exact hD
        have hf := lz_s hf s22 es22
        refine lv_aload_n hx hb dX11_roadLine_159 rfl (lv_at hl 2 rfl) ?_
        refine va_get (D := D) (ci := 10) (v := .ref (hMo 16)) (C := RX11) (T := TX11) (N := 41) hx hb hts iX11 hown hK hP 0 o_Mo rfl 16 (by decide) (htl _ (mB6 _ (List.mem_of_getElem? (i := 4) rfl))) (fun _ h9 => h9) rfl dX11_roadLine_160 ?_
        refine lv_bipush (v := (6 : Int32)) hx hb dX11_roadLine_163 (by decide) ?_
        refine lv_dup2_11 hx hb dX11_roadLine_165 rfl rfl ?_
        obtain ⟨g23, hf⟩ := gd_s hf
        refine va_iald hx hb hK hP 4 0 (f := s22.2.2.1 16) a_Mo_16 rfl (vpb_in g23) dX11_roadLine_166 ?_
        refine lv_topi (fun v24 ev24 => ?_)
        have hf := lz_s hf v24 ev24
        refine lv_iconst (v := (1 : Int32)) hx hb dX11_roadLine_167 (by decide) ?_
        refine lv_iadd hx hb dX11_roadLine_168 ?_
        obtain ⟨g25, hf⟩ := gd_s hf
        refine va_iast hx hb hK hP hD hS 4 0 (f := s22.2.2.1 16) a_Mo_16 rfl (vpb_in g25) dX11_roadLine_169 (fun H locs hP hD hS => ?_)
        have hP := cvP sa_Mo_16 hP
        have hD := cvD sa_Mo_16 hD
        obtain ⟨s26, es26⟩ : ∃ z, z = sA s22 16 ((6 : Int32).toNatClampNeg) (v24 + (1 : Int32)) := ⟨_, rfl⟩
        have hP : va_P D vwCl (wMo K hMo s26) H := by rw [es26]; exact hP
        have hD : va_D A (wMo K hMo s26) := by rw [es26]; exact hD
        have hf := lz_s hf s26 es26
        have e9 := Option.some.inj hf
        rw [hQ]
        exact W.vret hx hb hr (fun t ht hW => ⟨⟨s26, rfl, e9, ⟨by rw [ht]; exact hP, va_K.moved hW.alike hK, hD⟩⟩, hS.F ht⟩) hS.2.2 dX11_roadLine_170
      · have hf := it_f hf c14
        have e9 := Option.some.inj hf
        rw [hQ]
        exact W.vret hx hb hr (fun t ht hW => ⟨⟨o13.2, rfl, e9, ⟨by rw [ht]; exact hP, va_K.moved hW.alike hK, hD⟩⟩, hS.F ht⟩) hS.2.2 dX11_roadLine_96
    · have hf := it_f hf c10
      have e9 := Option.some.inj hf
      rw [hQ]
      exact W.vret hx hb hr (fun t ht hW => ⟨⟨sMo, rfl, e9, ⟨by rw [ht]; exact hP, va_K.moved hW.alike hK, hD⟩⟩, hS.F ht⟩) hS.2.2 dX11_roadLine_63
  have w47 : ∀ (x1 : Int32), ∀ (x2 : Int32), ∀ (sMo : MS), ∀ (H : Heap) (locs : List Loc) (ls : Array Slot), f_X11_roadLine_47 F x1 x2 sMo = some res → va_P D vwCl (wMo K hMo sMo) H → va_D A (wMo K hMo sMo) → va_S A s.heap H locs → lv_has ls 5 [(0, .ref (hMo 99)), (1, .int x1), (2, .int x2)] → W p l e (headSpec wz_X11_roadLine r_X11_roadLine).room s m args below meth c H locs 0 0 Q (F0 m 47 ls []) := by
    intro x1 x2 sMo H locs ls hf hP hD hS hl
    unfold f_X11_roadLine_47 at hf
    refine lv_aload_n hx hb dX11_roadLine_47 rfl (lv_at hl 0 rfl) ?_
    refine lv_iconst (v := (3 : Int32)) hx hb dX11_roadLine_48 (by decide) ?_
    refine lv_aload_n hx hb dX11_roadLine_49 rfl (lv_at hl 0 rfl) ?_
    refine va_get (D := D) (ci := 10) (v := .int (sMo.1 4)) (C := RX11) (T := TX11) (N := 41) hx hb hts iX11 hown hK hP 0 o_Mo rfl 4 (by decide) (htl _ (mB18 _ (List.mem_of_getElem? (i := 3) rfl))) (fun _ h9 => h9) rfl dX11_roadLine_50 ?_
    obtain ⟨o9, go9, hf⟩ := bd_s hf
    refine rs_Vv (As := [.int (3 : Int32), .int (sMo.1 4)]) (rest := []) ⟨hx, hb, hml, hown, hts⟩ (c_X11_wrong l D K F hMo H.size sMo (3 : Int32) (sMo.1 4) o9 go9) (cwV 2 hts (gcV_X11_wrong (mB20 _ (List.mem_of_getElem? (i := 1) rfl))) rfl rfl rfl hdV_X11_wrong ⟨Nat.le_of_ble_eq_true rfl, Nat.le_of_ble_eq_true rfl⟩) hK hP hD hS hA (va_recv hK hP (ci := 10) (q0 := 0) rfl o_Mo) rfl hl.1 rfl (Nat.le_of_ble_eq_true rfl) dX11_roadLine_53 ⟨Nat.zero_le _, Nat.zero_le _⟩ (fun H locs hP hD hS => ?_)
    have hP : va_P D vwCl (wMo K hMo o9) H := hP
    have hD : va_D A (wMo K hMo o9) := hD
    exact w56 x1 x2 o9 H locs ls hf hP hD hS (lv_sub hl [0, 1, 2] rfl)
  have hen : entryFrame m args 5 = entryFrame m (([.ref (hMo 99)] : List Value).toArray) 5 := by rw [hargs]
  have hl := lv_entry ([.ref (hMo 99)]) (n := 5) (Nat.le_of_ble_eq_true rfl)
  rw [hen, lg_entry_eq]
  generalize (lg_sl ([.ref (hMo 99)]) ++ List.replicate (5 - (lg_sl ([.ref (hMo 99)])).length) Slot.unset).toArray = ls at hl ⊢
  have hl : lv_has ls 5 [(0, .ref (hMo 99))] := hl
  unfold f_X11_roadLine at hf
  obtain ⟨H, hHe⟩ : ∃ z, z = s.heap := ⟨_, rfl⟩
  obtain ⟨locs, hLe⟩ : ∃ z : List Loc, z = [] := ⟨_, rfl⟩
  rw [← hLe]
  have hS : va_S A s.heap H locs := by rw [hHe, hLe]; exact hS
  have hP : va_P D vwCl (wMo K hMo sMo) H := by rw [hHe]; exact hP
  have hgo : W p l e (headSpec wz_X11_roadLine r_X11_roadLine).room s m args below meth c H locs 0 0 Q (F0 m 0 ls []) := by
    refine lv_aload_n hx hb dX11_roadLine_0 rfl (lv_at hl 0 rfl) ?_
    refine va_get (D := D) (ci := 10) (v := .int (sMo.1 13)) (C := RX11) (T := TX11) (N := 41) hx hb hts iX11 hown hK hP 0 o_Mo rfl 13 (by decide) (htl _ (mB17 _ (List.mem_of_getElem? (i := 23) rfl))) (fun _ h9 => h9) rfl dX11_roadLine_1 ?_
    refine lv_if_eq (tgt := 8) hx hb dX11_roadLine_4 (by decide) (fun c1 => ?_) (fun c1 => ?_)
    · have hf := it_t hf c1
      refine lv_aload_n hx hb dX11_roadLine_8 rfl (lv_at hl 0 rfl) ?_
      obtain ⟨o2, go2, hf⟩ := bd_s hf
      refine rs_Viz (As := []) (rest := []) ⟨hx, hb, hml, hown, hts⟩ (c_X11_placePassed l D K F adK adV tF hMo H.size sMo o2 go2) (cwV 0 hts (gcV_X11_placePassed (mB22 _ (List.mem_of_getElem? (i := 1) rfl))) rfl rfl rfl hdV_X11_placePassed ⟨Nat.le_of_ble_eq_true rfl, Nat.le_of_ble_eq_true rfl⟩) hK hP hD hS hA hZ (va_recv hK hP (ci := 10) (q0 := 0) rfl o_Mo) rfl hl.1 rfl (Nat.le_of_ble_eq_true rfl) dX11_roadLine_9 ⟨Nat.zero_le _, Nat.zero_le _⟩ (fun H locs hP hD hS => ?_)
      have hP : va_P D vwCl (wMo K hMo o2.2) H := hP
      have hD : va_D A (wMo K hMo o2.2) := hD
      refine lv_istore_n (lv' := [(1, .int o2.1), (0, .ref (hMo 99))]) hx hb dX11_roadLine_12 rfl hl (by decide) rfl (fun ls hl => ?_)
      refine lv_aload_n hx hb dX11_roadLine_13 rfl (lv_at hl 1 rfl) ?_
      obtain ⟨o3, go3, hf⟩ := bd_s hf
      refine rs_Viz (As := []) (rest := []) ⟨hx, hb, hml, hown, hts⟩ (c_X11_placeHere l D K F adK adV tF hMo H.size o2.2 o3 go3) (cwV 0 hts (gcV_X11_placeHere (mB22 _ (List.mem_of_getElem? (i := 5) rfl))) rfl rfl rfl hdV_X11_placeHere ⟨Nat.le_of_ble_eq_true rfl, Nat.le_of_ble_eq_true rfl⟩) hK hP hD hS hA hZ (va_recv hK hP (ci := 10) (q0 := 0) rfl o_Mo) rfl hl.1 rfl (Nat.le_of_ble_eq_true rfl) dX11_roadLine_14 ⟨Nat.zero_le _, Nat.zero_le _⟩ (fun H locs hP hD hS => ?_)
      have hP : va_P D vwCl (wMo K hMo o3.2) H := hP
      have hD : va_D A (wMo K hMo o3.2) := hD
      refine lv_istore_n (lv' := [(2, .int o3.1), (1, .int o2.1), (0, .ref (hMo 99))]) hx hb dX11_roadLine_17 rfl hl (by decide) rfl (fun ls hl => ?_)
      refine lv_aload_n hx hb dX11_roadLine_18 rfl (lv_at hl 2 rfl) ?_
      refine va_get (D := D) (ci := 10) (v := .int (o3.2.1 13)) (C := RX11) (T := TX11) (N := 41) hx hb hts iX11 hown hK hP 0 o_Mo rfl 13 (by decide) (htl _ (mB17 _ (List.mem_of_getElem? (i := 23) rfl))) (fun _ h9 => h9) rfl dX11_roadLine_19 ?_
      refine lv_if_ne (tgt := 56) hx hb dX11_roadLine_22 (by decide) (fun c4 => ?_) (fun c4 => ?_)
      · have hf := it_f hf c4
        exact w56 o2.1 o3.1 o3.2 H locs ls hf hP hD hS (lv_sub hl [2, 1, 0] rfl)
      · have hf := it_t hf c4
        refine lv_iload_n hx hb dX11_roadLine_25 rfl (lv_at hl 1 rfl) ?_
        refine lv_iload_n hx hb dX11_roadLine_26 rfl (lv_at hl 0 rfl) ?_
        refine lv_icmp_eq (tgt := 47) hx hb dX11_roadLine_27 (by decide) (fun c5 => ?_) (fun c5 => ?_)
        · have hf := it_t hf c5
          exact w47 o2.1 o3.1 o3.2 H locs ls hf hP hD hS (lv_sub hl [2, 1, 0] rfl)
        · have hf := it_f hf c5
          refine lv_aload_n hx hb dX11_roadLine_30 rfl (lv_at hl 2 rfl) ?_
          refine va_get (D := D) (ci := 10) (v := .ref (hMo 16)) (C := RX11) (T := TX11) (N := 41) hx hb hts iX11 hown hK hP 0 o_Mo rfl 16 (by decide) (htl _ (mB6 _ (List.mem_of_getElem? (i := 4) rfl))) (fun _ h9 => h9) rfl dX11_roadLine_31 ?_
          refine lv_bipush (v := (38 : Int32)) hx hb dX11_roadLine_34 (by decide) ?_
          refine lv_bipush (v := (9 : Int32)) hx hb dX11_roadLine_36 (by decide) ?_
          refine lv_iload_n hx hb dX11_roadLine_38 rfl (lv_at hl 1 rfl) ?_
          refine lv_imul hx hb dX11_roadLine_39 ?_
          refine lv_iadd hx hb dX11_roadLine_40 ?_
          refine lv_iload_n hx hb dX11_roadLine_41 rfl (lv_at hl 0 rfl) ?_
          refine lv_iadd hx hb dX11_roadLine_42 ?_
          obtain ⟨g6, hf⟩ := gd_s hf
          refine va_iald hx hb hK hP 4 0 (f := o3.2.2.2.1 16) a_Mo_16 rfl (vpb_in g6) dX11_roadLine_43 ?_
          refine lv_topi (fun v7 ev7 => ?_)
          have hf := lz_s hf v7 ev7
          refine lv_if_le (tgt := 56) hx hb dX11_roadLine_44 (by decide) (fun c8 => ?_) (fun c8 => ?_)
          · have hf := it_t hf c8
            exact w56 o2.1 o3.1 o3.2 H locs ls hf hP hD hS (lv_sub hl [2, 1, 0] rfl)
          · have hf := it_f hf c8
            exact w47 o2.1 o3.1 o3.2 H locs ls hf hP hD hS (lv_sub hl [2, 1, 0] rfl)
    · have hf := it_f hf c1
      have e9 := Option.some.inj hf
      rw [hQ]
      exact W.vret hx hb hr (fun t ht hW => ⟨⟨sMo, rfl, e9, ⟨by rw [ht]; exact hP, va_K.moved hW.alike hK, hD⟩⟩, hS.F ht⟩) hS.2.2 dX11_roadLine_7
  rw [hHe] at hgo
  exact hgo

def wz_X11_pumpLine : List Cond := .code yX11_pumpLine cX11_pumpLine 6 none :: wsL_law
abbrev r_X11_pumpLine : Room := { frames := 8, cells := 0, slots := 0, locals := 173 }
set_option maxHeartbeats 4000000 in
set_option maxRecDepth 100000 in
theorem c_X11_pumpLine (l : Launch) (D : va_G) (K : Nat → ClassId) (F : Nat) (adK adV : Nat → Nat) (tF : Nat) (hMo : Nat → Nat) (sz : Nat) (sMo : MS) (res : MS) (hf : f_X11_pumpLine F sMo = some res) : Met l yX11_pumpLine wz_X11_pumpLine r_X11_pumpLine (va_Pc [.ref (hMo 99)] (PWz D K adK adV tF (wMo K hMo sMo) sz)) (va_Qv (fun u => u = res) (fun u t => BW D K (va_A (wMo K hMo sMo) sz) (wMo K hMo u) t) (va_A (wMo K hMo sMo) sz)) 0 0 (va_A (wMo K hMo sMo) sz) := by
  refine Met.ofW (cc := cX11_pumpLine) (maxL := 6) (ret := none) (by decide) rfl ?_
  intro p e s m args below meth c s₁ B hml hv
  obtain ⟨hargs, ⟨hsz, hP, hK, hD0⟩, hZ⟩ := hv
  have hx := B.exec
  have hb := B.bytes
  have hr := B.returns
  have hts := atoms_spec (ws := wz_X11_pumpLine) B.pre
  have htl : ∀ w ∈ wsL_law, w.before args s = true := fun w h => hts w (List.mem_cons_of_mem _ h)
  have hown : s.vm.findClass RX11 = some m.cls := findClass_of_methodNamed B.named
  have hlocks := B.notSynchronized
  subst hsz
  have hD := hD0.self (sz := s.heap.size)
  generalize hAe : va_A (wMo K hMo sMo) s.heap.size = A at hD hZ ⊢
  have hA : ∀ q : Nat, s.heap.size ≤ q → A q := fun q h => by rw [← hAe]; exact Or.inr h
  have hS : va_S A s.heap s.heap [] := va_S.rf
  have iX11 : ∀ w ∈ wsX110, w ∈ wz_X11_pumpLine := fun w h => List.mem_cons_of_mem _ (inlX11 w h)
  suffices hgo : ∀ Q : State → Prop, Q = MQ below (va_Qv (fun u => u = res) (fun u t => BW D K A (wMo K hMo u) t) A) args s 0 0 A → W p l e (headSpec wz_X11_pumpLine r_X11_pumpLine).room s m args below meth c s.heap [] 0 0 Q (entryFrame m args 6) from hgo _ rfl
  intro Q hQ
  have w121 : ∀ (x2 : Int32), ∀ (x3 : Int32), ∀ (x4 : Int32), ∀ (sMo : MS), ∀ (H : Heap) (locs : List Loc) (ls : Array Slot), f_X11_pumpLine_121 F x2 x3 x4 sMo = some res → va_P D vwCl (wMo K hMo sMo) H → va_D A (wMo K hMo sMo) → va_S A s.heap H locs → lv_has ls 6 [(0, .ref (hMo 99)), (2, .int x2), (3, .int x3), (4, .int x4)] → W p l e (headSpec wz_X11_pumpLine r_X11_pumpLine).room s m args below meth c H locs 0 0 Q (F0 m 121 ls []) := by
    intro x2 x3 x4 sMo H locs ls hf hP hD hS hl
    unfold f_X11_pumpLine_121 at hf
    refine lv_aload_n hx hb dX11_pumpLine_121 rfl (lv_at hl 0 rfl) ?_
    refine va_ldcS (own := RX11) (index := 249) (tx := "shut") (q := adK 14) hx hb hown (hZ.2.2.2 (RX11, 249, "shut", 14) (List.mem_of_getElem? (i := 14) rfl)) dX11_pumpLine_122 ?_
    refine lv_iconst (v := (0 : Int32)) hx hb dX11_pumpLine_124 (by decide) ?_
    refine lv_bipush (v := (9 : Int32)) hx hb dX11_pumpLine_125 (by decide) ?_
    obtain ⟨o20, go20, hf⟩ := bd_s hf
    refine rs_Viz (As := [.ref (adK 14), .int (0 : Int32), .int (9 : Int32)]) (rest := []) ⟨hx, hb, hml, hown, hts⟩ (c_X11_after l D K F adK adV tF hMo H.size sMo 14 (0 : Int32) (9 : Int32) o20 go20) (cwV 3 hts (gcV_X11_after (mB20 _ (List.mem_of_getElem? (i := 5) rfl))) rfl rfl rfl hdV_X11_after ⟨Nat.le_of_ble_eq_true rfl, Nat.le_of_ble_eq_true rfl⟩) hK hP hD hS hA hZ (va_recv hK hP (ci := 10) (q0 := 0) rfl o_Mo) rfl hl.1 rfl (Nat.le_of_ble_eq_true rfl) dX11_pumpLine_127 ⟨Nat.zero_le _, Nat.zero_le _⟩ (fun H locs hP hD hS => ?_)
    have hP : va_P D vwCl (wMo K hMo o20.2) H := hP
    have hD : va_D A (wMo K hMo o20.2) := hD
    refine lv_istore (lv' := [(5, .int o20.1), (0, .ref (hMo 99)), (2, .int x2), (3, .int x3), (4, .int x4)]) hx hb dX11_pumpLine_130 hl (by decide) rfl (fun ls hl => ?_)
    refine lv_aload_n hx hb dX11_pumpLine_132 rfl (lv_at hl 1 rfl) ?_
    refine va_get (D := D) (ci := 10) (v := .int (o20.2.1 13)) (C := RX11) (T := TX11) (N := 41) hx hb hts iX11 hown hK hP 0 o_Mo rfl 13 (by decide) (htl _ (mB17 _ (List.mem_of_getElem? (i := 23) rfl))) (fun _ h9 => h9) rfl dX11_pumpLine_133 ?_
    refine lv_if_eq (tgt := 140) hx hb dX11_pumpLine_136 (by decide) (fun c21 => ?_) (fun c21 => ?_)
    · have hf := it_t hf c21
      refine lv_aload_n hx hb dX11_pumpLine_140 rfl (lv_at hl 1 rfl) ?_
      refine va_get (D := D) (ci := 10) (v := .ref (hMo 16)) (C := RX11) (T := TX11) (N := 41) hx hb hts iX11 hown hK hP 0 o_Mo rfl 16 (by decide) (htl _ (mB6 _ (List.mem_of_getElem? (i := 4) rfl))) (fun _ h9 => h9) rfl dX11_pumpLine_141 ?_
      refine lv_iload_n hx hb dX11_pumpLine_144 rfl (lv_at hl 2 rfl) ?_
      refine lv_iload_n hx hb dX11_pumpLine_145 rfl (lv_at hl 3 rfl) ?_
      obtain ⟨g22, hf⟩ := gd_s hf
      refine va_iast hx hb hK hP hD hS 4 0 (f := o20.2.2.2.1 16) a_Mo_16 rfl (vpb_in g22) dX11_pumpLine_146 (fun H locs hP hD hS => ?_)
      have hP := cvP sa_Mo_16 hP
      have hD := cvD sa_Mo_16 hD
      obtain ⟨s23, es23⟩ : ∃ z, z = sA o20.2 16 x2.toNatClampNeg x3 := ⟨_, rfl⟩
      have hP : va_P D vwCl (wMo K hMo s23) H := by rw [es23]; exact hP
      have hD : va_D A (wMo K hMo s23) := by rw [es23]; exact hD
      have hf := lz_s hf s23 es23
      refine lv_aload_n hx hb dX11_pumpLine_147 rfl (lv_at hl 1 rfl) ?_
      refine va_get (D := D) (ci := 10) (v := .ref (hMo 16)) (C := RX11) (T := TX11) (N := 41) hx hb hts iX11 hown hK hP 0 o_Mo rfl 16 (by decide) (htl _ (mB6 _ (List.mem_of_getElem? (i := 4) rfl))) (fun _ h9 => h9) rfl dX11_pumpLine_148 ?_
      refine lv_iload_n hx hb dX11_pumpLine_151 rfl (lv_at hl 2 rfl) ?_
      refine lv_iconst (v := (1 : Int32)) hx hb dX11_pumpLine_152 (by decide) ?_
      refine lv_iadd hx hb dX11_pumpLine_153 ?_
      refine lv_iload hx hb dX11_pumpLine_154 (lv_at hl 4 rfl) ?_
      obtain ⟨g24, hf⟩ := gd_s hf
      refine va_iast hx hb hK hP hD hS 4 0 (f := s23.2.2.1 16) a_Mo_16 rfl (vpb_in g24) dX11_pumpLine_156 (fun H locs hP hD hS => ?_)
      have hP := cvP sa_Mo_16 hP
      have hD := cvD sa_Mo_16 hD
      obtain ⟨s25, es25⟩ : ∃ z, z = sA s23 16 ((x2 + (1 : Int32)).toNatClampNeg) x4 := ⟨_, rfl⟩
      have hP : va_P D vwCl (wMo K hMo s25) H := by rw [es25]; exact hP
      have hD : va_D A (wMo K hMo s25) := by rw [es25]; exact hD
      have hf := lz_s hf s25 es25
      refine lv_aload_n hx hb dX11_pumpLine_157 rfl (lv_at hl 1 rfl) ?_
      refine va_get (D := D) (ci := 10) (v := .ref (hMo 16)) (C := RX11) (T := TX11) (N := 41) hx hb hts iX11 hown hK hP 0 o_Mo rfl 16 (by decide) (htl _ (mB6 _ (List.mem_of_getElem? (i := 4) rfl))) (fun _ h9 => h9) rfl dX11_pumpLine_158 ?_
      refine lv_iload_n hx hb dX11_pumpLine_161 rfl (lv_at hl 2 rfl) ?_
      refine lv_iconst (v := (2 : Int32)) hx hb dX11_pumpLine_162 (by decide) ?_
      refine lv_iadd hx hb dX11_pumpLine_163 ?_
      refine lv_iload hx hb dX11_pumpLine_164 (lv_at hl 0 rfl) ?_
      obtain ⟨g26, hf⟩ := gd_s hf
      refine va_iast hx hb hK hP hD hS 4 0 (f := s25.2.2.1 16) a_Mo_16 rfl (vpb_in g26) dX11_pumpLine_166 (fun H locs hP hD hS => ?_)
      have hP := cvP sa_Mo_16 hP
      have hD := cvD sa_Mo_16 hD
      obtain ⟨s27, es27⟩ : ∃ z, z = sA s25 16 ((x2 + (2 : Int32)).toNatClampNeg) o20.1 := ⟨_, rfl⟩
      have hP : va_P D vwCl (wMo K hMo s27) H := by rw [es27]; exact hP
      have hD : va_D A (wMo K hMo s27) := by rw [es27]; exact hD
      have hf := lz_s hf s27 es27
      refine lv_aload_n hx hb dX11_pumpLine_167 rfl (lv_at hl 1 rfl) ?_
      refine va_get (D := D) (ci := 10) (v := .ref (hMo 16)) (C := RX11) (T := TX11) (N := 41) hx hb hts iX11 hown hK hP 0 o_Mo rfl 16 (by decide) (htl _ (mB6 _ (List.mem_of_getElem? (i := 4) rfl))) (fun _ h9 => h9) rfl dX11_pumpLine_168 ?_
      refine lv_bipush (v := (7 : Int32)) hx hb dX11_pumpLine_171 (by decide) ?_
      refine lv_dup2_11 hx hb dX11_pumpLine_173 rfl rfl ?_
      obtain ⟨g28, hf⟩ := gd_s hf
      refine va_iald hx hb hK hP 4 0 (f := s27.2.2.1 16) a_Mo_16 rfl (vpb_in g28) dX11_pumpLine_174 ?_
      refine lv_topi (fun v29 ev29 => ?_)
      have hf := lz_s hf v29 ev29
      refine lv_iconst (v := (1 : Int32)) hx hb dX11_pumpLine_175 (by decide) ?_
      refine lv_iadd hx hb dX11_pumpLine_176 ?_
      obtain ⟨g30, hf⟩ := gd_s hf
      refine va_iast hx hb hK hP hD hS 4 0 (f := s27.2.2.1 16) a_Mo_16 rfl (vpb_in g30) dX11_pumpLine_177 (fun H locs hP hD hS => ?_)
      have hP := cvP sa_Mo_16 hP
      have hD := cvD sa_Mo_16 hD
      obtain ⟨s31, es31⟩ : ∃ z, z = sA s27 16 ((7 : Int32).toNatClampNeg) (v29 + (1 : Int32)) := ⟨_, rfl⟩
      have hP : va_P D vwCl (wMo K hMo s31) H := by rw [es31]; exact hP
      have hD : va_D A (wMo K hMo s31) := by rw [es31]; exact hD
      have hf := lz_s hf s31 es31
      have e9 := Option.some.inj hf
      rw [hQ]
      exact W.vret hx hb hr (fun t ht hW => ⟨⟨s31, rfl, e9, ⟨by rw [ht]; exact hP, va_K.moved hW.alike hK, hD⟩⟩, hS.F ht⟩) hS.2.2 dX11_pumpLine_178
    · have hf := it_f hf c21
      have e9 := Option.some.inj hf
      rw [hQ]
      exact W.vret hx hb hr (fun t ht hW => ⟨⟨o20.2, rfl, e9, ⟨by rw [ht]; exact hP, va_K.moved hW.alike hK, hD⟩⟩, hS.F ht⟩) hS.2.2 dX11_pumpLine_139
  have w110 : ∀ (x2 : Int32), ∀ (x3 : Int32), ∀ (x4 : Int32), ∀ (sMo : MS), ∀ (H : Heap) (locs : List Loc) (ls : Array Slot), f_X11_pumpLine_110 F x2 x3 x4 sMo = some res → va_P D vwCl (wMo K hMo sMo) H → va_D A (wMo K hMo sMo) → va_S A s.heap H locs → lv_has ls 6 [(0, .ref (hMo 99)), (2, .int x2), (3, .int x3), (4, .int x4)] → W p l e (headSpec wz_X11_pumpLine r_X11_pumpLine).room s m args below meth c H locs 0 0 Q (F0 m 110 ls []) := by
    intro x2 x3 x4 sMo H locs ls hf hP hD hS hl
    unfold f_X11_pumpLine_110 at hf
    refine lv_aload_n hx hb dX11_pumpLine_110 rfl (lv_at hl 0 rfl) ?_
    refine va_get (D := D) (ci := 10) (v := .int (sMo.1 13)) (C := RX11) (T := TX11) (N := 41) hx hb hts iX11 hown hK hP 0 o_Mo rfl 13 (by decide) (htl _ (mB17 _ (List.mem_of_getElem? (i := 23) rfl))) (fun _ h9 => h9) rfl dX11_pumpLine_111 ?_
    refine lv_if_ne (tgt := 121) hx hb dX11_pumpLine_114 (by decide) (fun c18 => ?_) (fun c18 => ?_)
    · have hf := it_f hf c18
      exact w121 x2 x3 x4 sMo H locs ls hf hP hD hS (lv_sub hl [0, 1, 2, 3] rfl)
    · have hf := it_t hf c18
      refine lv_aload_n hx hb dX11_pumpLine_117 rfl (lv_at hl 0 rfl) ?_
      obtain ⟨o19, go19, hf⟩ := bd_s hf
      refine rs_Vv (As := []) (rest := []) ⟨hx, hb, hml, hown, hts⟩ (c_X11_next l D K F hMo H.size sMo o19 go19) (cwV 0 hts (gcV_X11_next (mB18 _ (List.mem_of_getElem? (i := 19) rfl))) rfl rfl rfl hdV_X11_next ⟨Nat.le_of_ble_eq_true rfl, Nat.le_of_ble_eq_true rfl⟩) hK hP hD hS hA (va_recv hK hP (ci := 10) (q0 := 0) rfl o_Mo) rfl hl.1 rfl (Nat.le_of_ble_eq_true rfl) dX11_pumpLine_118 ⟨Nat.zero_le _, Nat.zero_le _⟩ (fun H locs hP hD hS => ?_)
      have hP : va_P D vwCl (wMo K hMo o19) H := hP
      have hD : va_D A (wMo K hMo o19) := hD
      exact w121 x2 x3 x4 o19 H locs ls hf hP hD hS (lv_sub hl [0, 1, 2, 3] rfl)
  have w45 : ∀ (x2 : Int32), ∀ (sMo : MS), ∀ (H : Heap) (locs : List Loc) (ls : Array Slot), f_X11_pumpLine_45 F x2 sMo = some res → va_P D vwCl (wMo K hMo sMo) H → va_D A (wMo K hMo sMo) → va_S A s.heap H locs → lv_has ls 6 [(0, .ref (hMo 99)), (2, .int x2)] → W p l e (headSpec wz_X11_pumpLine r_X11_pumpLine).room s m args below meth c H locs 0 0 Q (F0 m 45 ls []) := by
    intro x2 sMo H locs ls hf hP hD hS hl
    unfold f_X11_pumpLine_45 at hf
    refine lv_aload_n hx hb dX11_pumpLine_45 rfl (lv_at hl 0 rfl) ?_
    refine va_get (D := D) (ci := 10) (v := .int (sMo.1 13)) (C := RX11) (T := TX11) (N := 41) hx hb hts iX11 hown hK hP 0 o_Mo rfl 13 (by decide) (htl _ (mB17 _ (List.mem_of_getElem? (i := 23) rfl))) (fun _ h9 => h9) rfl dX11_pumpLine_46 ?_
    refine lv_if_eq (tgt := 53) hx hb dX11_pumpLine_49 (by decide) (fun c9 => ?_) (fun c9 => ?_)
    · have hf := it_t hf c9
      refine lv_aload_n hx hb dX11_pumpLine_53 rfl (lv_at hl 0 rfl) ?_
      obtain ⟨o10, go10, hf⟩ := bd_s hf
      refine rs_Vv (As := []) (rest := []) ⟨hx, hb, hml, hown, hts⟩ (c_X11_next l D K F hMo H.size sMo o10 go10) (cwV 0 hts (gcV_X11_next (mB18 _ (List.mem_of_getElem? (i := 19) rfl))) rfl rfl rfl hdV_X11_next ⟨Nat.le_of_ble_eq_true rfl, Nat.le_of_ble_eq_true rfl⟩) hK hP hD hS hA (va_recv hK hP (ci := 10) (q0 := 0) rfl o_Mo) rfl hl.1 rfl (Nat.le_of_ble_eq_true rfl) dX11_pumpLine_54 ⟨Nat.zero_le _, Nat.zero_le _⟩ (fun H locs hP hD hS => ?_)
      have hP : va_P D vwCl (wMo K hMo o10) H := hP
      have hD : va_D A (wMo K hMo o10) := hD
      refine lv_aload_n hx hb dX11_pumpLine_57 rfl (lv_at hl 0 rfl) ?_
      refine va_ldcS (own := RX11) (index := 247) (tx := "price") (q := adK 12) hx hb hown (hZ.2.2.2 (RX11, 247, "price", 12) (List.mem_of_getElem? (i := 13) rfl)) dX11_pumpLine_58 ?_
      refine lv_iconst (v := (1 : Int32)) hx hb dX11_pumpLine_60 (by decide) ?_
      refine lv_bipush (v := (99 : Int32)) hx hb dX11_pumpLine_61 (by decide) ?_
      obtain ⟨o11, go11, hf⟩ := bd_s hf
      refine rs_Viz (As := [.ref (adK 12), .int (1 : Int32), .int (99 : Int32)]) (rest := []) ⟨hx, hb, hml, hown, hts⟩ (c_X11_after l D K F adK adV tF hMo H.size o10 12 (1 : Int32) (99 : Int32) o11 go11) (cwV 3 hts (gcV_X11_after (mB20 _ (List.mem_of_getElem? (i := 5) rfl))) rfl rfl rfl hdV_X11_after ⟨Nat.le_of_ble_eq_true rfl, Nat.le_of_ble_eq_true rfl⟩) hK hP hD hS hA hZ (va_recv hK hP (ci := 10) (q0 := 0) rfl o_Mo) rfl hl.1 rfl (Nat.le_of_ble_eq_true rfl) dX11_pumpLine_63 ⟨Nat.zero_le _, Nat.zero_le _⟩ (fun H locs hP hD hS => ?_)
      have hP : va_P D vwCl (wMo K hMo o11.2) H := hP
      have hD : va_D A (wMo K hMo o11.2) := hD
      refine lv_istore_n (lv' := [(3, .int o11.1), (0, .ref (hMo 99)), (2, .int x2)]) hx hb dX11_pumpLine_66 rfl hl (by decide) rfl (fun ls hl => ?_)
      refine lv_iconst (v := (0 : Int32)) hx hb dX11_pumpLine_67 (by decide) ?_
      refine lv_istore (lv' := [(4, .int (0 : Int32)), (3, .int o11.1), (0, .ref (hMo 99)), (2, .int x2)]) hx hb dX11_pumpLine_68 hl (by decide) rfl (fun ls hl => ?_)
      refine lv_aload_n hx hb dX11_pumpLine_70 rfl (lv_at hl 2 rfl) ?_
      refine va_ldcS (own := RX11) (index := 150) (tx := "o\x72") (q := adK 13) hx hb hown (hZ.2.2.2 (RX11, 150, "o\x72", 13) (List.mem_of_getElem? (i := 6) rfl)) dX11_pumpLine_71 ?_
      obtain ⟨o12, go12, hf⟩ := bd_s hf
      refine rs_Viz (As := [.ref (adK 13)]) (rest := []) ⟨hx, hb, hml, hown, hts⟩ (c_X11_takesWord l D K F adK adV tF hMo H.size o11.2 13 o12 go12) (cwV 1 hts (gcV_X11_takesWord (mB20 _ (List.mem_of_getElem? (i := 13) rfl))) rfl rfl rfl hdV_X11_takesWord ⟨Nat.le_of_ble_eq_true rfl, Nat.le_of_ble_eq_true rfl⟩) hK hP hD hS hA hZ (va_recv hK hP (ci := 10) (q0 := 0) rfl o_Mo) rfl hl.1 rfl (Nat.le_of_ble_eq_true rfl) dX11_pumpLine_73 ⟨Nat.zero_le _, Nat.zero_le _⟩ (fun H locs hP hD hS => ?_)
      have hP : va_P D vwCl (wMo K hMo o12.2) H := hP
      have hD : va_D A (wMo K hMo o12.2) := hD
      refine lv_if_eq (tgt := 121) hx hb dX11_pumpLine_76 (by decide) (fun c13 => ?_) (fun c13 => ?_)
      · have hf := it_t hf c13
        exact w121 x2 o11.1 (0 : Int32) o12.2 H locs ls hf hP hD hS (lv_sub hl [2, 3, 1, 0] rfl)
      · have hf := it_f hf c13
        refine lv_aload_n hx hb dX11_pumpLine_79 rfl (lv_at hl 2 rfl) ?_
        refine lv_iconst (v := (1 : Int32)) hx hb dX11_pumpLine_80 (by decide) ?_
        refine lv_bipush (v := (99 : Int32)) hx hb dX11_pumpLine_81 (by decide) ?_
        obtain ⟨o14, go14, hf⟩ := bd_s hf
        refine rs_Vi (As := [.int (1 : Int32), .int (99 : Int32)]) (rest := []) ⟨hx, hb, hml, hown, hts⟩ (c_X11_numberHere l D K F hMo H.size o12.2 (1 : Int32) (99 : Int32) o14 go14) (cwV 2 hts (gcV_X11_numberHere (mB20 _ (List.mem_of_getElem? (i := 21) rfl))) rfl rfl rfl hdV_X11_numberHere ⟨Nat.le_of_ble_eq_true rfl, Nat.le_of_ble_eq_true rfl⟩) hK hP hD hS hA (va_recv hK hP (ci := 10) (q0 := 0) rfl o_Mo) rfl hl.1 rfl (Nat.le_of_ble_eq_true rfl) dX11_pumpLine_83 ⟨Nat.zero_le _, Nat.zero_le _⟩ (fun H locs hP hD hS => ?_)
        have hP : va_P D vwCl (wMo K hMo o14.2) H := hP
        have hD : va_D A (wMo K hMo o14.2) := hD
        refine lv_istore (lv' := [(4, .int o14.1), (3, .int o11.1), (0, .ref (hMo 99)), (2, .int x2)]) hx hb dX11_pumpLine_86 hl (by decide) rfl (fun ls hl => ?_)
        refine lv_aload_n hx hb dX11_pumpLine_88 rfl (lv_at hl 2 rfl) ?_
        refine va_get (D := D) (ci := 10) (v := .int (o14.2.1 13)) (C := RX11) (T := TX11) (N := 41) hx hb hts iX11 hown hK hP 0 o_Mo rfl 13 (by decide) (htl _ (mB17 _ (List.mem_of_getElem? (i := 23) rfl))) (fun _ h9 => h9) rfl dX11_pumpLine_89 ?_
        refine lv_if_ne (tgt := 110) hx hb dX11_pumpLine_92 (by decide) (fun c15 => ?_) (fun c15 => ?_)
        · have hf := it_f hf c15
          exact w110 x2 o11.1 o14.1 o14.2 H locs ls hf hP hD hS (lv_sub hl [2, 3, 1, 0] rfl)
        · have hf := it_t hf c15
          refine lv_iload hx hb dX11_pumpLine_95 (lv_at hl 0 rfl) ?_
          refine lv_iload_n hx hb dX11_pumpLine_97 rfl (lv_at hl 1 rfl) ?_
          refine lv_icmp_ne (tgt := 110) hx hb dX11_pumpLine_98 (by decide) (fun c16 => ?_) (fun c16 => ?_)
          · have hf := it_f hf c16
            exact w110 x2 o11.1 o14.1 o14.2 H locs ls hf hP hD hS (lv_sub hl [2, 3, 1, 0] rfl)
          · have hf := it_t hf c16
            refine lv_aload_n hx hb dX11_pumpLine_101 rfl (lv_at hl 2 rfl) ?_
            refine lv_iconst (v := (3 : Int32)) hx hb dX11_pumpLine_102 (by decide) ?_
            refine lv_aload_n hx hb dX11_pumpLine_103 rfl (lv_at hl 2 rfl) ?_
            refine va_get (D := D) (ci := 10) (v := .int (o14.2.1 4)) (C := RX11) (T := TX11) (N := 41) hx hb hts iX11 hown hK hP 0 o_Mo rfl 4 (by decide) (htl _ (mB18 _ (List.mem_of_getElem? (i := 3) rfl))) (fun _ h9 => h9) rfl dX11_pumpLine_104 ?_
            obtain ⟨o17, go17, hf⟩ := bd_s hf
            refine rs_Vv (As := [.int (3 : Int32), .int (o14.2.1 4)]) (rest := []) ⟨hx, hb, hml, hown, hts⟩ (c_X11_wrong l D K F hMo H.size o14.2 (3 : Int32) (o14.2.1 4) o17 go17) (cwV 2 hts (gcV_X11_wrong (mB20 _ (List.mem_of_getElem? (i := 1) rfl))) rfl rfl rfl hdV_X11_wrong ⟨Nat.le_of_ble_eq_true rfl, Nat.le_of_ble_eq_true rfl⟩) hK hP hD hS hA (va_recv hK hP (ci := 10) (q0 := 0) rfl o_Mo) rfl hl.1 rfl (Nat.le_of_ble_eq_true rfl) dX11_pumpLine_107 ⟨Nat.zero_le _, Nat.zero_le _⟩ (fun H locs hP hD hS => ?_)
            have hP : va_P D vwCl (wMo K hMo o17) H := hP
            have hD : va_D A (wMo K hMo o17) := hD
            exact w110 x2 o11.1 o14.1 o17 H locs ls hf hP hD hS (lv_sub hl [2, 3, 1, 0] rfl)
    · have hf := it_f hf c9
      have e9 := Option.some.inj hf
      rw [hQ]
      exact W.vret hx hb hr (fun t ht hW => ⟨⟨sMo, rfl, e9, ⟨by rw [ht]; exact hP, va_K.moved hW.alike hK, hD⟩⟩, hS.F ht⟩) hS.2.2 dX11_pumpLine_52
  have hen : entryFrame m args 6 = entryFrame m (([.ref (hMo 99)] : List Value).toArray) 6 := by rw [hargs]
  have hl := lv_entry ([.ref (hMo 99)]) (n := 6) (Nat.le_of_ble_eq_true rfl)
  rw [hen, lg_entry_eq]
  generalize (lg_sl ([.ref (hMo 99)]) ++ List.replicate (6 - (lg_sl ([.ref (hMo 99)])).length) Slot.unset).toArray = ls at hl ⊢
  have hl : lv_has ls 6 [(0, .ref (hMo 99))] := hl
  unfold f_X11_pumpLine at hf
  obtain ⟨H, hHe⟩ : ∃ z, z = s.heap := ⟨_, rfl⟩
  obtain ⟨locs, hLe⟩ : ∃ z : List Loc, z = [] := ⟨_, rfl⟩
  rw [← hLe]
  have hS : va_S A s.heap H locs := by rw [hHe, hLe]; exact hS
  have hP : va_P D vwCl (wMo K hMo sMo) H := by rw [hHe]; exact hP
  have hgo : W p l e (headSpec wz_X11_pumpLine r_X11_pumpLine).room s m args below meth c H locs 0 0 Q (F0 m 0 ls []) := by
    refine lv_aload_n hx hb dX11_pumpLine_0 rfl (lv_at hl 0 rfl) ?_
    refine va_get (D := D) (ci := 10) (v := .int (sMo.1 13)) (C := RX11) (T := TX11) (N := 41) hx hb hts iX11 hown hK hP 0 o_Mo rfl 13 (by decide) (htl _ (mB17 _ (List.mem_of_getElem? (i := 23) rfl))) (fun _ h9 => h9) rfl dX11_pumpLine_1 ?_
    refine lv_if_eq (tgt := 8) hx hb dX11_pumpLine_4 (by decide) (fun c1 => ?_) (fun c1 => ?_)
    · have hf := it_t hf c1
      refine lv_aload_n hx hb dX11_pumpLine_8 rfl (lv_at hl 0 rfl) ?_
      obtain ⟨o2, go2, hf⟩ := bd_s hf
      refine rs_Viz (As := []) (rest := []) ⟨hx, hb, hml, hown, hts⟩ (c_X11_placeHere l D K F adK adV tF hMo H.size sMo o2 go2) (cwV 0 hts (gcV_X11_placeHere (mB22 _ (List.mem_of_getElem? (i := 5) rfl))) rfl rfl rfl hdV_X11_placeHere ⟨Nat.le_of_ble_eq_true rfl, Nat.le_of_ble_eq_true rfl⟩) hK hP hD hS hA hZ (va_recv hK hP (ci := 10) (q0 := 0) rfl o_Mo) rfl hl.1 rfl (Nat.le_of_ble_eq_true rfl) dX11_pumpLine_9 ⟨Nat.zero_le _, Nat.zero_le _⟩ (fun H locs hP hD hS => ?_)
      have hP : va_P D vwCl (wMo K hMo o2.2) H := hP
      have hD : va_D A (wMo K hMo o2.2) := hD
      refine lv_istore_n (lv' := [(1, .int o2.1), (0, .ref (hMo 99))]) hx hb dX11_pumpLine_12 rfl hl (by decide) rfl (fun ls hl => ?_)
      refine lv_bipush (v := (11 : Int32)) hx hb dX11_pumpLine_13 (by decide) ?_
      refine lv_iconst (v := (3 : Int32)) hx hb dX11_pumpLine_15 (by decide) ?_
      refine lv_iload_n hx hb dX11_pumpLine_16 rfl (lv_at hl 0 rfl) ?_
      refine lv_imul hx hb dX11_pumpLine_17 ?_
      refine lv_iadd hx hb dX11_pumpLine_18 ?_
      refine lv_topi (fun v3 ev3 => ?_)
      have hf := lz_s hf v3 ev3
      refine lv_istore_n (lv' := [(2, .int v3), (1, .int o2.1), (0, .ref (hMo 99))]) hx hb dX11_pumpLine_19 rfl hl (by decide) rfl (fun ls hl => ?_)
      refine lv_aload_n hx hb dX11_pumpLine_20 rfl (lv_at hl 2 rfl) ?_
      refine va_get (D := D) (ci := 10) (v := .int (o2.2.1 13)) (C := RX11) (T := TX11) (N := 41) hx hb hts iX11 hown hK hP 0 o_Mo rfl 13 (by decide) (htl _ (mB17 _ (List.mem_of_getElem? (i := 23) rfl))) (fun _ h9 => h9) rfl dX11_pumpLine_21 ?_
      refine lv_if_ne (tgt := 45) hx hb dX11_pumpLine_24 (by decide) (fun c4 => ?_) (fun c4 => ?_)
      · have hf := it_f hf c4
        exact w45 v3 o2.2 H locs ls hf hP hD hS (lv_sub hl [2, 0] rfl)
      · have hf := it_t hf c4
        refine lv_aload_n hx hb dX11_pumpLine_27 rfl (lv_at hl 2 rfl) ?_
        refine va_get (D := D) (ci := 10) (v := .ref (hMo 16)) (C := RX11) (T := TX11) (N := 41) hx hb hts iX11 hown hK hP 0 o_Mo rfl 16 (by decide) (htl _ (mB6 _ (List.mem_of_getElem? (i := 4) rfl))) (fun _ h9 => h9) rfl dX11_pumpLine_28 ?_
        refine lv_iload_n hx hb dX11_pumpLine_31 rfl (lv_at hl 0 rfl) ?_
        obtain ⟨g5, hf⟩ := gd_s hf
        refine va_iald hx hb hK hP 4 0 (f := o2.2.2.2.1 16) a_Mo_16 rfl (vpb_in g5) dX11_pumpLine_32 ?_
        refine lv_topi (fun v6 ev6 => ?_)
        have hf := lz_s hf v6 ev6
        refine lv_if_le (tgt := 45) hx hb dX11_pumpLine_33 (by decide) (fun c7 => ?_) (fun c7 => ?_)
        · have hf := it_t hf c7
          exact w45 v3 o2.2 H locs ls hf hP hD hS (lv_sub hl [2, 0] rfl)
        · have hf := it_f hf c7
          refine lv_aload_n hx hb dX11_pumpLine_36 rfl (lv_at hl 2 rfl) ?_
          refine lv_iconst (v := (3 : Int32)) hx hb dX11_pumpLine_37 (by decide) ?_
          refine lv_aload_n hx hb dX11_pumpLine_38 rfl (lv_at hl 2 rfl) ?_
          refine va_get (D := D) (ci := 10) (v := .int (o2.2.1 4)) (C := RX11) (T := TX11) (N := 41) hx hb hts iX11 hown hK hP 0 o_Mo rfl 4 (by decide) (htl _ (mB18 _ (List.mem_of_getElem? (i := 3) rfl))) (fun _ h9 => h9) rfl dX11_pumpLine_39 ?_
          obtain ⟨o8, go8, hf⟩ := bd_s hf
          refine rs_Vv (As := [.int (3 : Int32), .int (o2.2.1 4)]) (rest := []) ⟨hx, hb, hml, hown, hts⟩ (c_X11_wrong l D K F hMo H.size o2.2 (3 : Int32) (o2.2.1 4) o8 go8) (cwV 2 hts (gcV_X11_wrong (mB20 _ (List.mem_of_getElem? (i := 1) rfl))) rfl rfl rfl hdV_X11_wrong ⟨Nat.le_of_ble_eq_true rfl, Nat.le_of_ble_eq_true rfl⟩) hK hP hD hS hA (va_recv hK hP (ci := 10) (q0 := 0) rfl o_Mo) rfl hl.1 rfl (Nat.le_of_ble_eq_true rfl) dX11_pumpLine_42 ⟨Nat.zero_le _, Nat.zero_le _⟩ (fun H locs hP hD hS => ?_)
          have hP : va_P D vwCl (wMo K hMo o8) H := hP
          have hD : va_D A (wMo K hMo o8) := hD
          exact w45 v3 o8 H locs ls hf hP hD hS (lv_sub hl [2, 0] rfl)
    · have hf := it_f hf c1
      have e9 := Option.some.inj hf
      rw [hQ]
      exact W.vret hx hb hr (fun t ht hW => ⟨⟨sMo, rfl, e9, ⟨by rw [ht]; exact hP, va_K.moved hW.alike hK, hD⟩⟩, hS.F ht⟩) hS.2.2 dX11_pumpLine_7
  rw [hHe] at hgo
  exact hgo

def wz_X11_wayLine : List Cond := .code yX11_wayLine cX11_wayLine 4 none :: wsL_law
abbrev r_X11_wayLine : Room := { frames := 7, cells := 0, slots := 0, locals := 150 }
set_option maxHeartbeats 4000000 in
set_option maxRecDepth 100000 in
theorem c_X11_wayLine (l : Launch) (D : va_G) (K : Nat → ClassId) (F : Nat) (adK adV : Nat → Nat) (tF : Nat) (hMo : Nat → Nat) (sz : Nat) (sMo : MS) (res : MS) (hf : f_X11_wayLine F sMo = some res) : Met l yX11_wayLine wz_X11_wayLine r_X11_wayLine (va_Pc [.ref (hMo 99)] (PWz D K adK adV tF (wMo K hMo sMo) sz)) (va_Qv (fun u => u = res) (fun u t => BW D K (va_A (wMo K hMo sMo) sz) (wMo K hMo u) t) (va_A (wMo K hMo sMo) sz)) 0 0 (va_A (wMo K hMo sMo) sz) := by
  refine Met.ofW (cc := cX11_wayLine) (maxL := 4) (ret := none) (by decide) rfl ?_
  intro p e s m args below meth c s₁ B hml hv
  obtain ⟨hargs, ⟨hsz, hP, hK, hD0⟩, hZ⟩ := hv
  have hx := B.exec
  have hb := B.bytes
  have hr := B.returns
  have hts := atoms_spec (ws := wz_X11_wayLine) B.pre
  have htl : ∀ w ∈ wsL_law, w.before args s = true := fun w h => hts w (List.mem_cons_of_mem _ h)
  have hown : s.vm.findClass RX11 = some m.cls := findClass_of_methodNamed B.named
  have hlocks := B.notSynchronized
  subst hsz
  have hD := hD0.self (sz := s.heap.size)
  generalize hAe : va_A (wMo K hMo sMo) s.heap.size = A at hD hZ ⊢
  have hA : ∀ q : Nat, s.heap.size ≤ q → A q := fun q h => by rw [← hAe]; exact Or.inr h
  have hS : va_S A s.heap s.heap [] := va_S.rf
  have iX11 : ∀ w ∈ wsX110, w ∈ wz_X11_wayLine := fun w h => List.mem_cons_of_mem _ (inlX11 w h)
  suffices hgo : ∀ Q : State → Prop, Q = MQ below (va_Qv (fun u => u = res) (fun u t => BW D K A (wMo K hMo u) t) A) args s 0 0 A → W p l e (headSpec wz_X11_wayLine r_X11_wayLine).room s m args below meth c s.heap [] 0 0 Q (entryFrame m args 4) from hgo _ rfl
  intro Q hQ
  have w211 : ∀ (x1 : Int32), ∀ (sMo : MS), ∀ (H : Heap) (locs : List Loc) (ls : Array Slot), f_X11_wayLine_211 F x1 sMo = some res → va_P D vwCl (wMo K hMo sMo) H → va_D A (wMo K hMo sMo) → va_S A s.heap H locs → lv_has ls 4 [(0, .ref (hMo 99)), (1, .int x1)] → W p l e (headSpec wz_X11_wayLine r_X11_wayLine).room s m args below meth c H locs 0 0 Q (F0 m 211 ls []) := by
    intro x1 sMo H locs ls hf hP hD hS hl
    unfold f_X11_wayLine_211 at hf
    refine lv_aload_n hx hb dX11_wayLine_211 rfl (lv_at hl 0 rfl) ?_
    refine va_get (D := D) (ci := 10) (v := .int (sMo.1 13)) (C := RX11) (T := TX11) (N := 41) hx hb hts iX11 hown hK hP 0 o_Mo rfl 13 (by decide) (htl _ (mB17 _ (List.mem_of_getElem? (i := 23) rfl))) (fun _ h9 => h9) rfl dX11_wayLine_212 ?_
    refine lv_if_ne (tgt := 226) hx hb dX11_wayLine_215 (by decide) (fun c35 => ?_) (fun c35 => ?_)
    · have hf := it_f hf c35
      have e9 := Option.some.inj hf
      rw [hQ]
      exact W.vret hx hb hr (fun t ht hW => ⟨⟨sMo, rfl, e9, ⟨by rw [ht]; exact hP, va_K.moved hW.alike hK, hD⟩⟩, hS.F ht⟩) hS.2.2 dX11_wayLine_226
    · have hf := it_t hf c35
      refine lv_aload_n hx hb dX11_wayLine_218 rfl (lv_at hl 0 rfl) ?_
      refine va_get (D := D) (ci := 10) (v := .ref (hMo 16)) (C := RX11) (T := TX11) (N := 41) hx hb hts iX11 hown hK hP 0 o_Mo rfl 16 (by decide) (htl _ (mB6 _ (List.mem_of_getElem? (i := 4) rfl))) (fun _ h9 => h9) rfl dX11_wayLine_219 ?_
      refine lv_bipush (v := (8 : Int32)) hx hb dX11_wayLine_222 (by decide) ?_
      refine lv_iload_n hx hb dX11_wayLine_224 rfl (lv_at hl 1 rfl) ?_
      obtain ⟨g36, hf⟩ := gd_s hf
      refine va_iast hx hb hK hP hD hS 4 0 (f := sMo.2.2.1 16) a_Mo_16 rfl (vpb_in g36) dX11_wayLine_225 (fun H locs hP hD hS => ?_)
      have hP := cvP sa_Mo_16 hP
      have hD := cvD sa_Mo_16 hD
      obtain ⟨s37, es37⟩ : ∃ z, z = sA sMo 16 ((8 : Int32).toNatClampNeg) x1 := ⟨_, rfl⟩
      have hP : va_P D vwCl (wMo K hMo s37) H := by rw [es37]; exact hP
      have hD : va_D A (wMo K hMo s37) := by rw [es37]; exact hD
      have hf := lz_s hf s37 es37
      have e9 := Option.some.inj hf
      rw [hQ]
      exact W.vret hx hb hr (fun t ht hW => ⟨⟨s37, rfl, e9, ⟨by rw [ht]; exact hP, va_K.moved hW.alike hK, hD⟩⟩, hS.F ht⟩) hS.2.2 dX11_wayLine_226
  have w204 : ∀ (x1 : Int32), ∀ (y1 : Int32), ∀ (sMo : MS), ∀ (H : Heap) (locs : List Loc) (ls : Array Slot), f_X11_wayLine_204 F x1 y1 sMo = some res → va_P D vwCl (wMo K hMo sMo) H → va_D A (wMo K hMo sMo) → va_S A s.heap H locs → lv_has ls 4 [(0, .ref (hMo 99)), (1, .int x1)] → W p l e (headSpec wz_X11_wayLine r_X11_wayLine).room s m args below meth c H locs 0 0 Q (F0 m 204 ls [.int y1, .ref (hMo 99)]) := by
    intro x1 y1 sMo H locs ls hf hP hD hS hl
    unfold f_X11_wayLine_204 at hf
    refine lv_aload_n hx hb dX11_wayLine_204 rfl (lv_at hl 0 rfl) ?_
    refine va_get (D := D) (ci := 10) (v := .int (sMo.1 4)) (C := RX11) (T := TX11) (N := 41) hx hb hts iX11 hown hK hP 0 o_Mo rfl 4 (by decide) (htl _ (mB18 _ (List.mem_of_getElem? (i := 3) rfl))) (fun _ h9 => h9) rfl dX11_wayLine_205 ?_
    obtain ⟨o34, go34, hf⟩ := bd_s hf
    refine rs_Vv (As := [.int y1, .int (sMo.1 4)]) (rest := []) ⟨hx, hb, hml, hown, hts⟩ (c_X11_wrong l D K F hMo H.size sMo y1 (sMo.1 4) o34 go34) (cwV 2 hts (gcV_X11_wrong (mB20 _ (List.mem_of_getElem? (i := 1) rfl))) rfl rfl rfl hdV_X11_wrong ⟨Nat.le_of_ble_eq_true rfl, Nat.le_of_ble_eq_true rfl⟩) hK hP hD hS hA (va_recv hK hP (ci := 10) (q0 := 0) rfl o_Mo) rfl hl.1 rfl (Nat.le_of_ble_eq_true rfl) dX11_wayLine_208 ⟨Nat.zero_le _, Nat.zero_le _⟩ (fun H locs hP hD hS => ?_)
    have hP : va_P D vwCl (wMo K hMo o34) H := hP
    have hD : va_D A (wMo K hMo o34) := hD
    exact w211 x1 o34 H locs ls hf hP hD hS (lv_sub hl [0, 1] rfl)
  have w198 : ∀ (x1 : Int32), ∀ (sMo : MS), ∀ (H : Heap) (locs : List Loc) (ls : Array Slot), f_X11_wayLine_198 F x1 sMo = some res → va_P D vwCl (wMo K hMo sMo) H → va_D A (wMo K hMo sMo) → va_S A s.heap H locs → lv_has ls 4 [(0, .ref (hMo 99)), (1, .int x1)] → W p l e (headSpec wz_X11_wayLine r_X11_wayLine).room s m args below meth c H locs 0 0 Q (F0 m 198 ls [.ref (hMo 99)]) := by
    intro x1 sMo H locs ls hf hP hD hS hl
    unfold f_X11_wayLine_198 at hf
    refine lv_bipush (v := (6 : Int32)) hx hb dX11_wayLine_198 (by decide) ?_
    refine lv_goto (tgt := 204) hx hb dX11_wayLine_200 (by decide) ?_
    exact w204 x1 (6 : Int32) sMo H locs ls hf hP hD hS (lv_sub hl [0, 1] rfl)
  have w169 : ∀ (x1 : Int32), ∀ (sMo : MS), ∀ (H : Heap) (locs : List Loc) (ls : Array Slot), f_X11_wayLine_169 F x1 sMo = some res → va_P D vwCl (wMo K hMo sMo) H → va_D A (wMo K hMo sMo) → va_S A s.heap H locs → lv_has ls 4 [(0, .ref (hMo 99)), (1, .int x1)] → W p l e (headSpec wz_X11_wayLine r_X11_wayLine).room s m args below meth c H locs 0 0 Q (F0 m 169 ls []) := by
    intro x1 sMo H locs ls hf hP hD hS hl
    unfold f_X11_wayLine_169 at hf
    refine lv_aload_n hx hb dX11_wayLine_169 rfl (lv_at hl 0 rfl) ?_
    refine va_get (D := D) (ci := 10) (v := .int (sMo.1 13)) (C := RX11) (T := TX11) (N := 41) hx hb hts iX11 hown hK hP 0 o_Mo rfl 13 (by decide) (htl _ (mB17 _ (List.mem_of_getElem? (i := 23) rfl))) (fun _ h9 => h9) rfl dX11_wayLine_170 ?_
    refine lv_if_ne (tgt := 211) hx hb dX11_wayLine_173 (by decide) (fun c30 => ?_) (fun c30 => ?_)
    · have hf := it_f hf c30
      exact w211 x1 sMo H locs ls hf hP hD hS (lv_sub hl [0, 1] rfl)
    · have hf := it_t hf c30
      refine lv_iload_n hx hb dX11_wayLine_176 rfl (lv_at hl 1 rfl) ?_
      refine lv_iconst (v := (2 : Int32)) hx hb dX11_wayLine_177 (by decide) ?_
      refine lv_icmp_ge (tgt := 211) hx hb dX11_wayLine_178 (by decide) (fun c31 => ?_) (fun c31 => ?_)
      · have hf := it_t hf c31
        exact w211 x1 sMo H locs ls hf hP hD hS (lv_sub hl [0, 1] rfl)
      · have hf := it_f hf c31
        refine lv_aload_n hx hb dX11_wayLine_181 rfl (lv_at hl 0 rfl) ?_
        refine lv_aload_n hx hb dX11_wayLine_182 rfl (lv_at hl 0 rfl) ?_
        refine va_get (D := D) (ci := 10) (v := .int (sMo.1 6)) (C := RX11) (T := TX11) (N := 41) hx hb hts iX11 hown hK hP 0 o_Mo rfl 6 (by decide) (htl _ (mB18 _ (List.mem_of_getElem? (i := 2) rfl))) (fun _ h9 => h9) rfl dX11_wayLine_183 ?_
        refine lv_bipush (v := (59 : Int32)) hx hb dX11_wayLine_186 (by decide) ?_
        refine lv_icmp_eq (tgt := 198) hx hb dX11_wayLine_188 (by decide) (fun c32 => ?_) (fun c32 => ?_)
        · have hf := it_t hf c32
          exact w198 x1 sMo H locs ls hf hP hD hS (lv_sub hl [0, 1] rfl)
        · have hf := it_f hf c32
          refine lv_aload_n hx hb dX11_wayLine_191 rfl (lv_at hl 0 rfl) ?_
          refine va_get (D := D) (ci := 10) (v := .int (sMo.1 6)) (C := RX11) (T := TX11) (N := 41) hx hb hts iX11 hown hK hP 0 o_Mo rfl 6 (by decide) (htl _ (mB18 _ (List.mem_of_getElem? (i := 2) rfl))) (fun _ h9 => h9) rfl dX11_wayLine_192 ?_
          refine lv_if_ne (tgt := 203) hx hb dX11_wayLine_195 (by decide) (fun c33 => ?_) (fun c33 => ?_)
          · have hf := it_f hf c33
            refine lv_iconst (v := (1 : Int32)) hx hb dX11_wayLine_203 (by decide) ?_
            exact w204 x1 (1 : Int32) sMo H locs ls hf hP hD hS (lv_sub hl [0, 1] rfl)
          · have hf := it_t hf c33
            exact w198 x1 sMo H locs ls hf hP hD hS (lv_sub hl [0, 1] rfl)
  have w135 : ∀ (k55 : Int32 → Int32 → MS → Option MS), (∀ (x1 : Int32), ∀ (x2 : Int32), ∀ (sMo : MS), ∀ (H : Heap) (locs : List Loc) (ls : Array Slot), k55 x1 x2 sMo = some res → va_P D vwCl (wMo K hMo sMo) H → va_D A (wMo K hMo sMo) → va_S A s.heap H locs → lv_has ls 4 [(0, .ref (hMo 99)), (1, .int x1), (2, .int x2)] → W p l e (headSpec wz_X11_wayLine r_X11_wayLine).room s m args below meth c H locs 0 0 Q (F0 m 55 ls [])) → ∀ (x1 : Int32), ∀ (x3 : Int32), ∀ (sMo : MS), ∀ (H : Heap) (locs : List Loc) (ls : Array Slot), f_X11_wayLine_135 F k55 x1 x3 sMo = some res → va_P D vwCl (wMo K hMo sMo) H → va_D A (wMo K hMo sMo) → va_S A s.heap H locs → lv_has ls 4 [(0, .ref (hMo 99)), (1, .int x1), (3, .int x3)] → W p l e (headSpec wz_X11_wayLine r_X11_wayLine).room s m args below meth c H locs 0 0 Q (F0 m 135 ls []) := by
    intro k55 hk55 x1 x3 sMo H locs ls hf hP hD hS hl
    unfold f_X11_wayLine_135 at hf
    refine lv_aload_n hx hb dX11_wayLine_135 rfl (lv_at hl 0 rfl) ?_
    refine va_get (D := D) (ci := 10) (v := .int (sMo.1 13)) (C := RX11) (T := TX11) (N := 41) hx hb hts iX11 hown hK hP 0 o_Mo rfl 13 (by decide) (htl _ (mB17 _ (List.mem_of_getElem? (i := 23) rfl))) (fun _ h9 => h9) rfl dX11_wayLine_136 ?_
    refine lv_if_eq (tgt := 143) hx hb dX11_wayLine_139 (by decide) (fun c24 => ?_) (fun c24 => ?_)
    · have hf := it_t hf c24
      refine lv_aload_n hx hb dX11_wayLine_143 rfl (lv_at hl 0 rfl) ?_
      refine va_get (D := D) (ci := 10) (v := .ref (hMo 16)) (C := RX11) (T := TX11) (N := 41) hx hb hts iX11 hown hK hP 0 o_Mo rfl 16 (by decide) (htl _ (mB6 _ (List.mem_of_getElem? (i := 4) rfl))) (fun _ h9 => h9) rfl dX11_wayLine_144 ?_
      refine lv_sipush (v := (200 : Int32)) hx hb dX11_wayLine_147 (by decide) ?_
      refine lv_iload_n hx hb dX11_wayLine_150 rfl (lv_at hl 1 rfl) ?_
      refine lv_iadd hx hb dX11_wayLine_151 ?_
      refine lv_iload_n hx hb dX11_wayLine_152 rfl (lv_at hl 2 rfl) ?_
      obtain ⟨g25, hf⟩ := gd_s hf
      refine va_iast hx hb hK hP hD hS 4 0 (f := sMo.2.2.1 16) a_Mo_16 rfl (vpb_in g25) dX11_wayLine_153 (fun H locs hP hD hS => ?_)
      have hP := cvP sa_Mo_16 hP
      have hD := cvD sa_Mo_16 hD
      obtain ⟨s26, es26⟩ : ∃ z, z = sA sMo 16 (((200 : Int32) + x1).toNatClampNeg) x3 := ⟨_, rfl⟩
      have hP : va_P D vwCl (wMo K hMo s26) H := by rw [es26]; exact hP
      have hD : va_D A (wMo K hMo s26) := by rw [es26]; exact hD
      have hf := lz_s hf s26 es26
      obtain ⟨v27, ev27⟩ : ∃ z : Int32, z = x1 + (1 : Int32) := ⟨_, rfl⟩
      have hf := lz_s hf v27 ev27
      refine lv_iinc (v := v27) (lv' := [(1, .int v27), (0, .ref (hMo 99)), (3, .int x3)]) hx hb dX11_wayLine_154 hl (k := 1) rfl (by rw [ev27]; rfl) (by decide) rfl (fun ls hl => ?_)
      refine lv_aload_n hx hb dX11_wayLine_157 rfl (lv_at hl 1 rfl) ?_
      obtain ⟨o28, go28, hf⟩ := bd_s hf
      refine rs_Vv (As := []) (rest := []) ⟨hx, hb, hml, hown, hts⟩ (c_X11_next l D K F hMo H.size s26 o28 go28) (cwV 0 hts (gcV_X11_next (mB18 _ (List.mem_of_getElem? (i := 19) rfl))) rfl rfl rfl hdV_X11_next ⟨Nat.le_of_ble_eq_true rfl, Nat.le_of_ble_eq_true rfl⟩) hK hP hD hS hA (va_recv hK hP (ci := 10) (q0 := 0) rfl o_Mo) rfl hl.1 rfl (Nat.le_of_ble_eq_true rfl) dX11_wayLine_158 ⟨Nat.zero_le _, Nat.zero_le _⟩ (fun H locs hP hD hS => ?_)
      have hP : va_P D vwCl (wMo K hMo o28) H := hP
      have hD : va_D A (wMo K hMo o28) := hD
      refine lv_aload_n hx hb dX11_wayLine_161 rfl (lv_at hl 1 rfl) ?_
      obtain ⟨o29, go29, hf⟩ := bd_s hf
      refine rs_Vi (As := []) (rest := []) ⟨hx, hb, hml, hown, hts⟩ (c_X11_comma l D K F hMo H.size o28 o29 go29) (cwV 0 hts (gcV_X11_comma (mB21 _ (List.mem_of_getElem? (i := 1) rfl))) rfl rfl rfl hdV_X11_comma ⟨Nat.le_of_ble_eq_true rfl, Nat.le_of_ble_eq_true rfl⟩) hK hP hD hS hA (va_recv hK hP (ci := 10) (q0 := 0) rfl o_Mo) rfl hl.1 rfl (Nat.le_of_ble_eq_true rfl) dX11_wayLine_162 ⟨Nat.zero_le _, Nat.zero_le _⟩ (fun H locs hP hD hS => ?_)
      have hP : va_P D vwCl (wMo K hMo o29.2) H := hP
      have hD : va_D A (wMo K hMo o29.2) := hD
      refine lv_istore_n (lv' := [(2, .int o29.1), (1, .int v27), (0, .ref (hMo 99)), (3, .int x3)]) hx hb dX11_wayLine_165 rfl hl (by decide) rfl (fun ls hl => ?_)
      refine lv_goto (tgt := 55) hx hb dX11_wayLine_166 (by decide) ?_
      exact hk55 v27 o29.1 o29.2 H locs ls hf hP hD hS (lv_sub hl [2, 1, 0] rfl)
    · have hf := it_f hf c24
      have e9 := Option.some.inj hf
      rw [hQ]
      exact W.vret hx hb hr (fun t ht hW => ⟨⟨sMo, rfl, e9, ⟨by rw [ht]; exact hP, va_K.moved hW.alike hK, hD⟩⟩, hS.F ht⟩) hS.2.2 dX11_wayLine_142
  have w86 : ∀ (k55 : Int32 → Int32 → MS → Option MS), (∀ (x1 : Int32), ∀ (x2 : Int32), ∀ (sMo : MS), ∀ (H : Heap) (locs : List Loc) (ls : Array Slot), k55 x1 x2 sMo = some res → va_P D vwCl (wMo K hMo sMo) H → va_D A (wMo K hMo sMo) → va_S A s.heap H locs → lv_has ls 4 [(0, .ref (hMo 99)), (1, .int x1), (2, .int x2)] → W p l e (headSpec wz_X11_wayLine r_X11_wayLine).room s m args below meth c H locs 0 0 Q (F0 m 55 ls [])) → ∀ (x1 : Int32), ∀ (x3 : Int32), ∀ (sMo : MS), ∀ (H : Heap) (locs : List Loc) (ls : Array Slot), f_X11_wayLine_86 F k55 x1 x3 sMo = some res → va_P D vwCl (wMo K hMo sMo) H → va_D A (wMo K hMo sMo) → va_S A s.heap H locs → lv_has ls 4 [(0, .ref (hMo 99)), (1, .int x1), (3, .int x3)] → W p l e (headSpec wz_X11_wayLine r_X11_wayLine).room s m args below meth c H locs 0 0 Q (F0 m 86 ls []) := by
    intro k55 hk55 x1 x3 sMo H locs ls hf hP hD hS hl
    unfold f_X11_wayLine_86 at hf
    refine lv_aload_n hx hb dX11_wayLine_86 rfl (lv_at hl 0 rfl) ?_
    refine va_get (D := D) (ci := 10) (v := .int (sMo.1 13)) (C := RX11) (T := TX11) (N := 41) hx hb hts iX11 hown hK hP 0 o_Mo rfl 13 (by decide) (htl _ (mB17 _ (List.mem_of_getElem? (i := 23) rfl))) (fun _ h9 => h9) rfl dX11_wayLine_87 ?_
    refine lv_if_ne (tgt := 135) hx hb dX11_wayLine_90 (by decide) (fun c16 => ?_) (fun c16 => ?_)
    · have hf := it_f hf c16
      exact w135 k55 hk55 x1 x3 sMo H locs ls hf hP hD hS (lv_sub hl [0, 1, 2] rfl)
    · have hf := it_t hf c16
      refine lv_iload_n hx hb dX11_wayLine_93 rfl (lv_at hl 1 rfl) ?_
      refine lv_if_le (tgt := 135) hx hb dX11_wayLine_94 (by decide) (fun c17 => ?_) (fun c17 => ?_)
      · have hf := it_t hf c17
        exact w135 k55 hk55 x1 x3 sMo H locs ls hf hP hD hS (lv_sub hl [0, 1, 2] rfl)
      · have hf := it_f hf c17
        refine lv_aload_n hx hb dX11_wayLine_97 rfl (lv_at hl 0 rfl) ?_
        refine va_get (D := D) (ci := 10) (v := .ref (hMo 16)) (C := RX11) (T := TX11) (N := 41) hx hb hts iX11 hown hK hP 0 o_Mo rfl 16 (by decide) (htl _ (mB6 _ (List.mem_of_getElem? (i := 4) rfl))) (fun _ h9 => h9) rfl dX11_wayLine_98 ?_
        refine lv_bipush (v := (38 : Int32)) hx hb dX11_wayLine_101 (by decide) ?_
        refine lv_bipush (v := (9 : Int32)) hx hb dX11_wayLine_103 (by decide) ?_
        refine lv_aload_n hx hb dX11_wayLine_105 rfl (lv_at hl 0 rfl) ?_
        refine va_get (D := D) (ci := 10) (v := .ref (hMo 16)) (C := RX11) (T := TX11) (N := 41) hx hb hts iX11 hown hK hP 0 o_Mo rfl 16 (by decide) (htl _ (mB6 _ (List.mem_of_getElem? (i := 4) rfl))) (fun _ h9 => h9) rfl dX11_wayLine_106 ?_
        refine lv_sipush (v := (200 : Int32)) hx hb dX11_wayLine_109 (by decide) ?_
        refine lv_iload_n hx hb dX11_wayLine_112 rfl (lv_at hl 1 rfl) ?_
        refine lv_iadd hx hb dX11_wayLine_113 ?_
        refine lv_iconst (v := (1 : Int32)) hx hb dX11_wayLine_114 (by decide) ?_
        refine lv_isub hx hb dX11_wayLine_115 ?_
        obtain ⟨g18, hf⟩ := gd_s hf
        refine va_iald hx hb hK hP 4 0 (f := sMo.2.2.1 16) a_Mo_16 rfl (vpb_in g18) dX11_wayLine_116 ?_
        refine lv_topi (fun v19 ev19 => ?_)
        have hf := lz_s hf v19 ev19
        refine lv_imul hx hb dX11_wayLine_117 ?_
        refine lv_iadd hx hb dX11_wayLine_118 ?_
        refine lv_iload_n hx hb dX11_wayLine_119 rfl (lv_at hl 2 rfl) ?_
        refine lv_iadd hx hb dX11_wayLine_120 ?_
        obtain ⟨g20, hf⟩ := gd_s hf
        refine va_iald hx hb hK hP 4 0 (f := sMo.2.2.1 16) a_Mo_16 rfl (vpb_in g20) dX11_wayLine_121 ?_
        refine lv_topi (fun v21 ev21 => ?_)
        have hf := lz_s hf v21 ev21
        refine lv_if_ne (tgt := 135) hx hb dX11_wayLine_122 (by decide) (fun c22 => ?_) (fun c22 => ?_)
        · have hf := it_f hf c22
          exact w135 k55 hk55 x1 x3 sMo H locs ls hf hP hD hS (lv_sub hl [0, 1, 2] rfl)
        · have hf := it_t hf c22
          refine lv_aload_n hx hb dX11_wayLine_125 rfl (lv_at hl 0 rfl) ?_
          refine lv_bipush (v := (7 : Int32)) hx hb dX11_wayLine_126 (by decide) ?_
          refine lv_aload_n hx hb dX11_wayLine_128 rfl (lv_at hl 0 rfl) ?_
          refine va_get (D := D) (ci := 10) (v := .int (sMo.1 4)) (C := RX11) (T := TX11) (N := 41) hx hb hts iX11 hown hK hP 0 o_Mo rfl 4 (by decide) (htl _ (mB18 _ (List.mem_of_getElem? (i := 3) rfl))) (fun _ h9 => h9) rfl dX11_wayLine_129 ?_
          obtain ⟨o23, go23, hf⟩ := bd_s hf
          refine rs_Vv (As := [.int (7 : Int32), .int (sMo.1 4)]) (rest := []) ⟨hx, hb, hml, hown, hts⟩ (c_X11_wrong l D K F hMo H.size sMo (7 : Int32) (sMo.1 4) o23 go23) (cwV 2 hts (gcV_X11_wrong (mB20 _ (List.mem_of_getElem? (i := 1) rfl))) rfl rfl rfl hdV_X11_wrong ⟨Nat.le_of_ble_eq_true rfl, Nat.le_of_ble_eq_true rfl⟩) hK hP hD hS hA (va_recv hK hP (ci := 10) (q0 := 0) rfl o_Mo) rfl hl.1 rfl (Nat.le_of_ble_eq_true rfl) dX11_wayLine_132 ⟨Nat.zero_le _, Nat.zero_le _⟩ (fun H locs hP hD hS => ?_)
          have hP : va_P D vwCl (wMo K hMo o23) H := hP
          have hD : va_D A (wMo K hMo o23) := hD
          exact w135 k55 hk55 x1 x3 o23 H locs ls hf hP hD hS (lv_sub hl [0, 1, 2] rfl)
  have w55 : ∀ (n : Nat), ∀ (x1 : Int32), ∀ (x2 : Int32), ∀ (sMo : MS), ∀ (H : Heap) (locs : List Loc) (ls : Array Slot), f_X11_wayLine_55 F n x1 x2 sMo = some res → va_P D vwCl (wMo K hMo sMo) H → va_D A (wMo K hMo sMo) → va_S A s.heap H locs → lv_has ls 4 [(0, .ref (hMo 99)), (1, .int x1), (2, .int x2)] → W p l e (headSpec wz_X11_wayLine r_X11_wayLine).room s m args below meth c H locs 0 0 Q (F0 m 55 ls []) := by
    intro n
    induction n with
    | zero =>
      intro x1 x2 sMo H locs ls hf
      exact absurd (show none = some res from hf) (fun h => nomatch h)
    | succ n ih =>
      intro x1 x2 sMo H locs ls hf hP hD hS hl
      rw [f_X11_wayLine_55] at hf
      refine lv_iload_n hx hb dX11_wayLine_55 rfl (lv_at hl 2 rfl) ?_
      refine lv_if_eq (tgt := 169) hx hb dX11_wayLine_56 (by decide) (fun c11 => ?_) (fun c11 => ?_)
      · have hf := it_t hf c11
        exact w169 x1 sMo H locs ls hf hP hD hS (lv_sub hl [0, 1] rfl)
      · have hf := it_f hf c11
        refine lv_aload_n hx hb dX11_wayLine_59 rfl (lv_at hl 0 rfl) ?_
        obtain ⟨o12, go12, hf⟩ := bd_s hf
        refine rs_Viz (As := []) (rest := []) ⟨hx, hb, hml, hown, hts⟩ (c_X11_placeHere l D K F adK adV tF hMo H.size sMo o12 go12) (cwV 0 hts (gcV_X11_placeHere (mB22 _ (List.mem_of_getElem? (i := 5) rfl))) rfl rfl rfl hdV_X11_placeHere ⟨Nat.le_of_ble_eq_true rfl, Nat.le_of_ble_eq_true rfl⟩) hK hP hD hS hA hZ (va_recv hK hP (ci := 10) (q0 := 0) rfl o_Mo) rfl hl.1 rfl (Nat.le_of_ble_eq_true rfl) dX11_wayLine_60 ⟨Nat.zero_le _, Nat.zero_le _⟩ (fun H locs hP hD hS => ?_)
        have hP : va_P D vwCl (wMo K hMo o12.2) H := hP
        have hD : va_D A (wMo K hMo o12.2) := hD
        refine lv_istore_n (lv' := [(3, .int o12.1), (0, .ref (hMo 99)), (1, .int x1), (2, .int x2)]) hx hb dX11_wayLine_63 rfl hl (by decide) rfl (fun ls hl => ?_)
        refine lv_aload_n hx hb dX11_wayLine_64 rfl (lv_at hl 1 rfl) ?_
        refine va_get (D := D) (ci := 10) (v := .int (o12.2.1 13)) (C := RX11) (T := TX11) (N := 41) hx hb hts iX11 hown hK hP 0 o_Mo rfl 13 (by decide) (htl _ (mB17 _ (List.mem_of_getElem? (i := 23) rfl))) (fun _ h9 => h9) rfl dX11_wayLine_65 ?_
        refine lv_if_ne (tgt := 86) hx hb dX11_wayLine_68 (by decide) (fun c13 => ?_) (fun c13 => ?_)
        · have hf := it_f hf c13
          exact w86 (f_X11_wayLine_55 F n) ih x1 o12.1 o12.2 H locs ls hf hP hD hS (lv_sub hl [1, 2, 0] rfl)
        · have hf := it_t hf c13
          refine lv_iload_n hx hb dX11_wayLine_71 rfl (lv_at hl 2 rfl) ?_
          refine lv_bipush (v := (9 : Int32)) hx hb dX11_wayLine_72 (by decide) ?_
          refine lv_icmp_ne (tgt := 86) hx hb dX11_wayLine_74 (by decide) (fun c14 => ?_) (fun c14 => ?_)
          · have hf := it_f hf c14
            exact w86 (f_X11_wayLine_55 F n) ih x1 o12.1 o12.2 H locs ls hf hP hD hS (lv_sub hl [1, 2, 0] rfl)
          · have hf := it_t hf c14
            refine lv_aload_n hx hb dX11_wayLine_77 rfl (lv_at hl 1 rfl) ?_
            refine lv_iconst (v := (5 : Int32)) hx hb dX11_wayLine_78 (by decide) ?_
            refine lv_aload_n hx hb dX11_wayLine_79 rfl (lv_at hl 1 rfl) ?_
            refine va_get (D := D) (ci := 10) (v := .int (o12.2.1 4)) (C := RX11) (T := TX11) (N := 41) hx hb hts iX11 hown hK hP 0 o_Mo rfl 4 (by decide) (htl _ (mB18 _ (List.mem_of_getElem? (i := 3) rfl))) (fun _ h9 => h9) rfl dX11_wayLine_80 ?_
            obtain ⟨o15, go15, hf⟩ := bd_s hf
            refine rs_Vv (As := [.int (5 : Int32), .int (o12.2.1 4)]) (rest := []) ⟨hx, hb, hml, hown, hts⟩ (c_X11_wrong l D K F hMo H.size o12.2 (5 : Int32) (o12.2.1 4) o15 go15) (cwV 2 hts (gcV_X11_wrong (mB20 _ (List.mem_of_getElem? (i := 1) rfl))) rfl rfl rfl hdV_X11_wrong ⟨Nat.le_of_ble_eq_true rfl, Nat.le_of_ble_eq_true rfl⟩) hK hP hD hS hA (va_recv hK hP (ci := 10) (q0 := 0) rfl o_Mo) rfl hl.1 rfl (Nat.le_of_ble_eq_true rfl) dX11_wayLine_83 ⟨Nat.zero_le _, Nat.zero_le _⟩ (fun H locs hP hD hS => ?_)
            have hP : va_P D vwCl (wMo K hMo o15) H := hP
            have hD : va_D A (wMo K hMo o15) := hD
            exact w86 (f_X11_wayLine_55 F n) ih x1 o12.1 o15 H locs ls hf hP hD hS (lv_sub hl [1, 2, 0] rfl)
  have w39 : ∀ (sMo : MS), ∀ (H : Heap) (locs : List Loc) (ls : Array Slot), f_X11_wayLine_39 F sMo = some res → va_P D vwCl (wMo K hMo sMo) H → va_D A (wMo K hMo sMo) → va_S A s.heap H locs → lv_has ls 4 [(0, .ref (hMo 99))] → W p l e (headSpec wz_X11_wayLine r_X11_wayLine).room s m args below meth c H locs 0 0 Q (F0 m 39 ls []) := by
    intro sMo H locs ls hf hP hD hS hl
    unfold f_X11_wayLine_39 at hf
    refine lv_aload_n hx hb dX11_wayLine_39 rfl (lv_at hl 0 rfl) ?_
    refine va_get (D := D) (ci := 10) (v := .int (sMo.1 13)) (C := RX11) (T := TX11) (N := 41) hx hb hts iX11 hown hK hP 0 o_Mo rfl 13 (by decide) (htl _ (mB17 _ (List.mem_of_getElem? (i := 23) rfl))) (fun _ h9 => h9) rfl dX11_wayLine_40 ?_
    refine lv_if_eq (tgt := 47) hx hb dX11_wayLine_43 (by decide) (fun c9 => ?_) (fun c9 => ?_)
    · have hf := it_t hf c9
      refine lv_aload_n hx hb dX11_wayLine_47 rfl (lv_at hl 0 rfl) ?_
      obtain ⟨o10, go10, hf⟩ := bd_s hf
      refine rs_Vv (As := []) (rest := []) ⟨hx, hb, hml, hown, hts⟩ (c_X11_next l D K F hMo H.size sMo o10 go10) (cwV 0 hts (gcV_X11_next (mB18 _ (List.mem_of_getElem? (i := 19) rfl))) rfl rfl rfl hdV_X11_next ⟨Nat.le_of_ble_eq_true rfl, Nat.le_of_ble_eq_true rfl⟩) hK hP hD hS hA (va_recv hK hP (ci := 10) (q0 := 0) rfl o_Mo) rfl hl.1 rfl (Nat.le_of_ble_eq_true rfl) dX11_wayLine_48 ⟨Nat.zero_le _, Nat.zero_le _⟩ (fun H locs hP hD hS => ?_)
      have hP : va_P D vwCl (wMo K hMo o10) H := hP
      have hD : va_D A (wMo K hMo o10) := hD
      refine lv_iconst (v := (0 : Int32)) hx hb dX11_wayLine_51 (by decide) ?_
      refine lv_istore_n (lv' := [(1, .int (0 : Int32)), (0, .ref (hMo 99))]) hx hb dX11_wayLine_52 rfl hl (by decide) rfl (fun ls hl => ?_)
      refine lv_iconst (v := (1 : Int32)) hx hb dX11_wayLine_53 (by decide) ?_
      refine lv_istore_n (lv' := [(2, .int (1 : Int32)), (1, .int (0 : Int32)), (0, .ref (hMo 99))]) hx hb dX11_wayLine_54 rfl hl (by decide) rfl (fun ls hl => ?_)
      exact w55 F (0 : Int32) (1 : Int32) o10 H locs ls hf hP hD hS (lv_sub hl [2, 1, 0] rfl)
    · have hf := it_f hf c9
      have e9 := Option.some.inj hf
      rw [hQ]
      exact W.vret hx hb hr (fun t ht hW => ⟨⟨sMo, rfl, e9, ⟨by rw [ht]; exact hP, va_K.moved hW.alike hK, hD⟩⟩, hS.F ht⟩) hS.2.2 dX11_wayLine_46
  have w19 : ∀ (sMo : MS), ∀ (H : Heap) (locs : List Loc) (ls : Array Slot), f_X11_wayLine_19 F sMo = some res → va_P D vwCl (wMo K hMo sMo) H → va_D A (wMo K hMo sMo) → va_S A s.heap H locs → lv_has ls 4 [(0, .ref (hMo 99))] → W p l e (headSpec wz_X11_wayLine r_X11_wayLine).room s m args below meth c H locs 0 0 Q (F0 m 19 ls []) := by
    intro sMo H locs ls hf hP hD hS hl
    unfold f_X11_wayLine_19 at hf
    refine lv_aload_n hx hb dX11_wayLine_19 rfl (lv_at hl 0 rfl) ?_
    refine va_get (D := D) (ci := 10) (v := .ref (hMo 16)) (C := RX11) (T := TX11) (N := 41) hx hb hts iX11 hown hK hP 0 o_Mo rfl 16 (by decide) (htl _ (mB6 _ (List.mem_of_getElem? (i := 4) rfl))) (fun _ h9 => h9) rfl dX11_wayLine_20 ?_
    refine lv_bipush (v := (10 : Int32)) hx hb dX11_wayLine_23 (by decide) ?_
    obtain ⟨g5, hf⟩ := gd_s hf
    refine va_iald hx hb hK hP 4 0 (f := sMo.2.2.1 16) a_Mo_16 rfl (vpb_in g5) dX11_wayLine_25 ?_
    refine lv_topi (fun v6 ev6 => ?_)
    have hf := lz_s hf v6 ev6
    refine lv_if_ne (tgt := 39) hx hb dX11_wayLine_26 (by decide) (fun c7 => ?_) (fun c7 => ?_)
    · have hf := it_f hf c7
      exact w39 sMo H locs ls hf hP hD hS (lv_sub hl [0] rfl)
    · have hf := it_t hf c7
      refine lv_aload_n hx hb dX11_wayLine_29 rfl (lv_at hl 0 rfl) ?_
      refine lv_bipush (v := (6 : Int32)) hx hb dX11_wayLine_30 (by decide) ?_
      refine lv_aload_n hx hb dX11_wayLine_32 rfl (lv_at hl 0 rfl) ?_
      refine va_get (D := D) (ci := 10) (v := .int (sMo.1 4)) (C := RX11) (T := TX11) (N := 41) hx hb hts iX11 hown hK hP 0 o_Mo rfl 4 (by decide) (htl _ (mB18 _ (List.mem_of_getElem? (i := 3) rfl))) (fun _ h9 => h9) rfl dX11_wayLine_33 ?_
      obtain ⟨o8, go8, hf⟩ := bd_s hf
      refine rs_Vv (As := [.int (6 : Int32), .int (sMo.1 4)]) (rest := []) ⟨hx, hb, hml, hown, hts⟩ (c_X11_wrong l D K F hMo H.size sMo (6 : Int32) (sMo.1 4) o8 go8) (cwV 2 hts (gcV_X11_wrong (mB20 _ (List.mem_of_getElem? (i := 1) rfl))) rfl rfl rfl hdV_X11_wrong ⟨Nat.le_of_ble_eq_true rfl, Nat.le_of_ble_eq_true rfl⟩) hK hP hD hS hA (va_recv hK hP (ci := 10) (q0 := 0) rfl o_Mo) rfl hl.1 rfl (Nat.le_of_ble_eq_true rfl) dX11_wayLine_36 ⟨Nat.zero_le _, Nat.zero_le _⟩ (fun H locs hP hD hS => ?_)
      have hP : va_P D vwCl (wMo K hMo o8) H := hP
      have hD : va_D A (wMo K hMo o8) := hD
      exact w39 o8 H locs ls hf hP hD hS (lv_sub hl [0] rfl)
  have hen : entryFrame m args 4 = entryFrame m (([.ref (hMo 99)] : List Value).toArray) 4 := by rw [hargs]
  have hl := lv_entry ([.ref (hMo 99)]) (n := 4) (Nat.le_of_ble_eq_true rfl)
  rw [hen, lg_entry_eq]
  generalize (lg_sl ([.ref (hMo 99)]) ++ List.replicate (4 - (lg_sl ([.ref (hMo 99)])).length) Slot.unset).toArray = ls at hl ⊢
  have hl : lv_has ls 4 [(0, .ref (hMo 99))] := hl
  unfold f_X11_wayLine at hf
  obtain ⟨H, hHe⟩ : ∃ z, z = s.heap := ⟨_, rfl⟩
  obtain ⟨locs, hLe⟩ : ∃ z : List Loc, z = [] := ⟨_, rfl⟩
  rw [← hLe]
  have hS : va_S A s.heap H locs := by rw [hHe, hLe]; exact hS
  have hP : va_P D vwCl (wMo K hMo sMo) H := by rw [hHe]; exact hP
  have hgo : W p l e (headSpec wz_X11_wayLine r_X11_wayLine).room s m args below meth c H locs 0 0 Q (F0 m 0 ls []) := by
    refine lv_aload_n hx hb dX11_wayLine_0 rfl (lv_at hl 0 rfl) ?_
    refine va_get (D := D) (ci := 10) (v := .ref (hMo 16)) (C := RX11) (T := TX11) (N := 41) hx hb hts iX11 hown hK hP 0 o_Mo rfl 16 (by decide) (htl _ (mB6 _ (List.mem_of_getElem? (i := 4) rfl))) (fun _ h9 => h9) rfl dX11_wayLine_1 ?_
    refine lv_bipush (v := (8 : Int32)) hx hb dX11_wayLine_4 (by decide) ?_
    obtain ⟨g1, hf⟩ := gd_s hf
    refine va_iald hx hb hK hP 4 0 (f := sMo.2.2.1 16) a_Mo_16 rfl (vpb_in g1) dX11_wayLine_6 ?_
    refine lv_topi (fun v2 ev2 => ?_)
    have hf := lz_s hf v2 ev2
    refine lv_if_le (tgt := 19) hx hb dX11_wayLine_7 (by decide) (fun c3 => ?_) (fun c3 => ?_)
    · have hf := it_t hf c3
      exact w19 sMo H locs ls hf hP hD hS (lv_sub hl [0] rfl)
    · have hf := it_f hf c3
      refine lv_aload_n hx hb dX11_wayLine_10 rfl (lv_at hl 0 rfl) ?_
      refine lv_iconst (v := (3 : Int32)) hx hb dX11_wayLine_11 (by decide) ?_
      refine lv_aload_n hx hb dX11_wayLine_12 rfl (lv_at hl 0 rfl) ?_
      refine va_get (D := D) (ci := 10) (v := .int (sMo.1 4)) (C := RX11) (T := TX11) (N := 41) hx hb hts iX11 hown hK hP 0 o_Mo rfl 4 (by decide) (htl _ (mB18 _ (List.mem_of_getElem? (i := 3) rfl))) (fun _ h9 => h9) rfl dX11_wayLine_13 ?_
      obtain ⟨o4, go4, hf⟩ := bd_s hf
      refine rs_Vv (As := [.int (3 : Int32), .int (sMo.1 4)]) (rest := []) ⟨hx, hb, hml, hown, hts⟩ (c_X11_wrong l D K F hMo H.size sMo (3 : Int32) (sMo.1 4) o4 go4) (cwV 2 hts (gcV_X11_wrong (mB20 _ (List.mem_of_getElem? (i := 1) rfl))) rfl rfl rfl hdV_X11_wrong ⟨Nat.le_of_ble_eq_true rfl, Nat.le_of_ble_eq_true rfl⟩) hK hP hD hS hA (va_recv hK hP (ci := 10) (q0 := 0) rfl o_Mo) rfl hl.1 rfl (Nat.le_of_ble_eq_true rfl) dX11_wayLine_16 ⟨Nat.zero_le _, Nat.zero_le _⟩ (fun H locs hP hD hS => ?_)
      have hP : va_P D vwCl (wMo K hMo o4) H := hP
      have hD : va_D A (wMo K hMo o4) := hD
      exact w19 o4 H locs ls hf hP hD hS (lv_sub hl [0] rfl)
  rw [hHe] at hgo
  exact hgo

def wz_X11_receiptLine : List Cond := .code yX11_receiptLine cX11_receiptLine 3 none :: wsL_law
abbrev r_X11_receiptLine : Room := { frames := 7, cells := 0, slots := 0, locals := 150 }
set_option maxHeartbeats 4000000 in
set_option maxRecDepth 100000 in
theorem c_X11_receiptLine (l : Launch) (D : va_G) (K : Nat → ClassId) (F : Nat) (adK adV : Nat → Nat) (tF : Nat) (hMo : Nat → Nat) (sz : Nat) (sMo : MS) (res : MS) (hf : f_X11_receiptLine F sMo = some res) : Met l yX11_receiptLine wz_X11_receiptLine r_X11_receiptLine (va_Pc [.ref (hMo 99)] (PWz D K adK adV tF (wMo K hMo sMo) sz)) (va_Qv (fun u => u = res) (fun u t => BW D K (va_A (wMo K hMo sMo) sz) (wMo K hMo u) t) (va_A (wMo K hMo sMo) sz)) 0 0 (va_A (wMo K hMo sMo) sz) := by
  refine Met.ofW (cc := cX11_receiptLine) (maxL := 3) (ret := none) (by decide) rfl ?_
  intro p e s m args below meth c s₁ B hml hv
  obtain ⟨hargs, ⟨hsz, hP, hK, hD0⟩, hZ⟩ := hv
  have hx := B.exec
  have hb := B.bytes
  have hr := B.returns
  have hts := atoms_spec (ws := wz_X11_receiptLine) B.pre
  have htl : ∀ w ∈ wsL_law, w.before args s = true := fun w h => hts w (List.mem_cons_of_mem _ h)
  have hown : s.vm.findClass RX11 = some m.cls := findClass_of_methodNamed B.named
  have hlocks := B.notSynchronized
  subst hsz
  have hD := hD0.self (sz := s.heap.size)
  generalize hAe : va_A (wMo K hMo sMo) s.heap.size = A at hD hZ ⊢
  have hA : ∀ q : Nat, s.heap.size ≤ q → A q := fun q h => by rw [← hAe]; exact Or.inr h
  have hS : va_S A s.heap s.heap [] := va_S.rf
  have iX11 : ∀ w ∈ wsX110, w ∈ wz_X11_receiptLine := fun w h => List.mem_cons_of_mem _ (inlX11 w h)
  suffices hgo : ∀ Q : State → Prop, Q = MQ below (va_Qv (fun u => u = res) (fun u t => BW D K A (wMo K hMo u) t) A) args s 0 0 A → W p l e (headSpec wz_X11_receiptLine r_X11_receiptLine).room s m args below meth c s.heap [] 0 0 Q (entryFrame m args 3) from hgo _ rfl
  intro Q hQ
  have w58 : ∀ (x1 : Int32), ∀ (x2 : Int32), ∀ (sMo : MS), ∀ (H : Heap) (locs : List Loc) (ls : Array Slot), f_X11_receiptLine_58 F x1 x2 sMo = some res → va_P D vwCl (wMo K hMo sMo) H → va_D A (wMo K hMo sMo) → va_S A s.heap H locs → lv_has ls 3 [(0, .ref (hMo 99)), (1, .int x1), (2, .int x2)] → W p l e (headSpec wz_X11_receiptLine r_X11_receiptLine).room s m args below meth c H locs 0 0 Q (F0 m 58 ls []) := by
    intro x1 x2 sMo H locs ls hf hP hD hS hl
    unfold f_X11_receiptLine_58 at hf
    refine lv_aload_n hx hb dX11_receiptLine_58 rfl (lv_at hl 0 rfl) ?_
    refine va_get (D := D) (ci := 10) (v := .int (sMo.1 13)) (C := RX11) (T := TX11) (N := 41) hx hb hts iX11 hown hK hP 0 o_Mo rfl 13 (by decide) (htl _ (mB17 _ (List.mem_of_getElem? (i := 23) rfl))) (fun _ h9 => h9) rfl dX11_receiptLine_59 ?_
    refine lv_if_eq (tgt := 66) hx hb dX11_receiptLine_62 (by decide) (fun c11 => ?_) (fun c11 => ?_)
    · have hf := it_t hf c11
      refine lv_aload_n hx hb dX11_receiptLine_66 rfl (lv_at hl 0 rfl) ?_
      obtain ⟨o12, go12, hf⟩ := bd_s hf
      refine rs_Vv (As := []) (rest := []) ⟨hx, hb, hml, hown, hts⟩ (c_X11_next l D K F hMo H.size sMo o12 go12) (cwV 0 hts (gcV_X11_next (mB18 _ (List.mem_of_getElem? (i := 19) rfl))) rfl rfl rfl hdV_X11_next ⟨Nat.le_of_ble_eq_true rfl, Nat.le_of_ble_eq_true rfl⟩) hK hP hD hS hA (va_recv hK hP (ci := 10) (q0 := 0) rfl o_Mo) rfl hl.1 rfl (Nat.le_of_ble_eq_true rfl) dX11_receiptLine_67 ⟨Nat.zero_le _, Nat.zero_le _⟩ (fun H locs hP hD hS => ?_)
      have hP : va_P D vwCl (wMo K hMo o12) H := hP
      have hD : va_D A (wMo K hMo o12) := hD
      refine lv_aload_n hx hb dX11_receiptLine_70 rfl (lv_at hl 0 rfl) ?_
      refine va_get (D := D) (ci := 10) (v := .ref (hMo 16)) (C := RX11) (T := TX11) (N := 41) hx hb hts iX11 hown hK hP 0 o_Mo rfl 16 (by decide) (htl _ (mB6 _ (List.mem_of_getElem? (i := 4) rfl))) (fun _ h9 => h9) rfl dX11_receiptLine_71 ?_
      refine lv_iload_n hx hb dX11_receiptLine_74 rfl (lv_at hl 1 rfl) ?_
      refine lv_iload_n hx hb dX11_receiptLine_75 rfl (lv_at hl 2 rfl) ?_
      obtain ⟨g13, hf⟩ := gd_s hf
      refine va_iast hx hb hK hP hD hS 4 0 (f := o12.2.2.1 16) a_Mo_16 rfl (vpb_in g13) dX11_receiptLine_76 (fun H locs hP hD hS => ?_)
      have hP := cvP sa_Mo_16 hP
      have hD := cvD sa_Mo_16 hD
      obtain ⟨s14, es14⟩ : ∃ z, z = sA o12 16 x1.toNatClampNeg x2 := ⟨_, rfl⟩
      have hP : va_P D vwCl (wMo K hMo s14) H := by rw [es14]; exact hP
      have hD : va_D A (wMo K hMo s14) := by rw [es14]; exact hD
      have hf := lz_s hf s14 es14
      refine lv_aload_n hx hb dX11_receiptLine_77 rfl (lv_at hl 0 rfl) ?_
      refine va_get (D := D) (ci := 10) (v := .ref (hMo 16)) (C := RX11) (T := TX11) (N := 41) hx hb hts iX11 hown hK hP 0 o_Mo rfl 16 (by decide) (htl _ (mB6 _ (List.mem_of_getElem? (i := 4) rfl))) (fun _ h9 => h9) rfl dX11_receiptLine_78 ?_
      refine lv_iload_n hx hb dX11_receiptLine_81 rfl (lv_at hl 1 rfl) ?_
      refine lv_iconst (v := (1 : Int32)) hx hb dX11_receiptLine_82 (by decide) ?_
      refine lv_iadd hx hb dX11_receiptLine_83 ?_
      refine lv_aload_n hx hb dX11_receiptLine_84 rfl (lv_at hl 0 rfl) ?_
      refine lv_iconst (v := (1 : Int32)) hx hb dX11_receiptLine_85 (by decide) ?_
      refine lv_sipush (v := (999 : Int32)) hx hb dX11_receiptLine_86 (by decide) ?_
      obtain ⟨o15, go15, hf⟩ := bd_s hf
      refine rs_Vi (As := [.int (1 : Int32), .int (999 : Int32)]) (rest := [.int (x1 + (1 : Int32)), .ref (hMo 16)]) ⟨hx, hb, hml, hown, hts⟩ (c_X11_number l D K F hMo H.size s14 (1 : Int32) (999 : Int32) o15 go15) (cwV 2 hts (gcV_X11_number (mB20 _ (List.mem_of_getElem? (i := 17) rfl))) rfl rfl rfl hdV_X11_number ⟨Nat.le_of_ble_eq_true rfl, Nat.le_of_ble_eq_true rfl⟩) hK hP hD hS hA (va_recv hK hP (ci := 10) (q0 := 0) rfl o_Mo) rfl hl.1 rfl (Nat.le_of_ble_eq_true rfl) dX11_receiptLine_89 ⟨Nat.zero_le _, Nat.zero_le _⟩ (fun H locs hP hD hS => ?_)
      have hP : va_P D vwCl (wMo K hMo o15.2) H := hP
      have hD : va_D A (wMo K hMo o15.2) := hD
      obtain ⟨g16, hf⟩ := gd_s hf
      refine va_iast hx hb hK hP hD hS 4 0 (f := o15.2.2.2.1 16) a_Mo_16 rfl (vpb_in g16) dX11_receiptLine_92 (fun H locs hP hD hS => ?_)
      have hP := cvP sa_Mo_16 hP
      have hD := cvD sa_Mo_16 hD
      obtain ⟨s17, es17⟩ : ∃ z, z = sA o15.2 16 ((x1 + (1 : Int32)).toNatClampNeg) o15.1 := ⟨_, rfl⟩
      have hP : va_P D vwCl (wMo K hMo s17) H := by rw [es17]; exact hP
      have hD : va_D A (wMo K hMo s17) := by rw [es17]; exact hD
      have hf := lz_s hf s17 es17
      refine lv_aload_n hx hb dX11_receiptLine_93 rfl (lv_at hl 0 rfl) ?_
      refine va_get (D := D) (ci := 10) (v := .int (s17.1 13)) (C := RX11) (T := TX11) (N := 41) hx hb hts iX11 hown hK hP 0 o_Mo rfl 13 (by decide) (htl _ (mB17 _ (List.mem_of_getElem? (i := 23) rfl))) (fun _ h9 => h9) rfl dX11_receiptLine_94 ?_
      refine lv_if_ne (tgt := 111) hx hb dX11_receiptLine_97 (by decide) (fun c18 => ?_) (fun c18 => ?_)
      · have hf := it_f hf c18
        have e9 := Option.some.inj hf
        rw [hQ]
        exact W.vret hx hb hr (fun t ht hW => ⟨⟨s17, rfl, e9, ⟨by rw [ht]; exact hP, va_K.moved hW.alike hK, hD⟩⟩, hS.F ht⟩) hS.2.2 dX11_receiptLine_111
      · have hf := it_t hf c18
        refine lv_aload_n hx hb dX11_receiptLine_100 rfl (lv_at hl 0 rfl) ?_
        refine va_get (D := D) (ci := 10) (v := .ref (hMo 16)) (C := RX11) (T := TX11) (N := 41) hx hb hts iX11 hown hK hP 0 o_Mo rfl 16 (by decide) (htl _ (mB6 _ (List.mem_of_getElem? (i := 4) rfl))) (fun _ h9 => h9) rfl dX11_receiptLine_101 ?_
        refine lv_bipush (v := (9 : Int32)) hx hb dX11_receiptLine_104 (by decide) ?_
        refine lv_dup2_11 hx hb dX11_receiptLine_106 rfl rfl ?_
        obtain ⟨g19, hf⟩ := gd_s hf
        refine va_iald hx hb hK hP 4 0 (f := s17.2.2.1 16) a_Mo_16 rfl (vpb_in g19) dX11_receiptLine_107 ?_
        refine lv_topi (fun v20 ev20 => ?_)
        have hf := lz_s hf v20 ev20
        refine lv_iconst (v := (1 : Int32)) hx hb dX11_receiptLine_108 (by decide) ?_
        refine lv_iadd hx hb dX11_receiptLine_109 ?_
        obtain ⟨g21, hf⟩ := gd_s hf
        refine va_iast hx hb hK hP hD hS 4 0 (f := s17.2.2.1 16) a_Mo_16 rfl (vpb_in g21) dX11_receiptLine_110 (fun H locs hP hD hS => ?_)
        have hP := cvP sa_Mo_16 hP
        have hD := cvD sa_Mo_16 hD
        obtain ⟨s22, es22⟩ : ∃ z, z = sA s17 16 ((9 : Int32).toNatClampNeg) (v20 + (1 : Int32)) := ⟨_, rfl⟩
        have hP : va_P D vwCl (wMo K hMo s22) H := by rw [es22]; exact hP
        have hD : va_D A (wMo K hMo s22) := by rw [es22]; exact hD
        have hf := lz_s hf s22 es22
        have e9 := Option.some.inj hf
        rw [hQ]
        exact W.vret hx hb hr (fun t ht hW => ⟨⟨s22, rfl, e9, ⟨by rw [ht]; exact hP, va_K.moved hW.alike hK, hD⟩⟩, hS.F ht⟩) hS.2.2 dX11_receiptLine_111
    · have hf := it_f hf c11
      have e9 := Option.some.inj hf
      rw [hQ]
      exact W.vret hx hb hr (fun t ht hW => ⟨⟨sMo, rfl, e9, ⟨by rw [ht]; exact hP, va_K.moved hW.alike hK, hD⟩⟩, hS.F ht⟩) hS.2.2 dX11_receiptLine_65
  have hen : entryFrame m args 3 = entryFrame m (([.ref (hMo 99)] : List Value).toArray) 3 := by rw [hargs]
  have hl := lv_entry ([.ref (hMo 99)]) (n := 3) (Nat.le_of_ble_eq_true rfl)
  rw [hen, lg_entry_eq]
  generalize (lg_sl ([.ref (hMo 99)]) ++ List.replicate (3 - (lg_sl ([.ref (hMo 99)])).length) Slot.unset).toArray = ls at hl ⊢
  have hl : lv_has ls 3 [(0, .ref (hMo 99))] := hl
  unfold f_X11_receiptLine at hf
  obtain ⟨H, hHe⟩ : ∃ z, z = s.heap := ⟨_, rfl⟩
  obtain ⟨locs, hLe⟩ : ∃ z : List Loc, z = [] := ⟨_, rfl⟩
  rw [← hLe]
  have hS : va_S A s.heap H locs := by rw [hHe, hLe]; exact hS
  have hP : va_P D vwCl (wMo K hMo sMo) H := by rw [hHe]; exact hP
  have hgo : W p l e (headSpec wz_X11_receiptLine r_X11_receiptLine).room s m args below meth c H locs 0 0 Q (F0 m 0 ls []) := by
    refine lv_aload_n hx hb dX11_receiptLine_0 rfl (lv_at hl 0 rfl) ?_
    refine va_get (D := D) (ci := 10) (v := .int (sMo.1 13)) (C := RX11) (T := TX11) (N := 41) hx hb hts iX11 hown hK hP 0 o_Mo rfl 13 (by decide) (htl _ (mB17 _ (List.mem_of_getElem? (i := 23) rfl))) (fun _ h9 => h9) rfl dX11_receiptLine_1 ?_
    refine lv_if_eq (tgt := 8) hx hb dX11_receiptLine_4 (by decide) (fun c1 => ?_) (fun c1 => ?_)
    · have hf := it_t hf c1
      refine lv_sipush (v := (209 : Int32)) hx hb dX11_receiptLine_8 (by decide) ?_
      refine lv_iconst (v := (2 : Int32)) hx hb dX11_receiptLine_11 (by decide) ?_
      refine lv_aload_n hx hb dX11_receiptLine_12 rfl (lv_at hl 0 rfl) ?_
      refine va_get (D := D) (ci := 10) (v := .ref (hMo 16)) (C := RX11) (T := TX11) (N := 41) hx hb hts iX11 hown hK hP 0 o_Mo rfl 16 (by decide) (htl _ (mB6 _ (List.mem_of_getElem? (i := 4) rfl))) (fun _ h9 => h9) rfl dX11_receiptLine_13 ?_
      refine lv_bipush (v := (9 : Int32)) hx hb dX11_receiptLine_16 (by decide) ?_
      obtain ⟨g2, hf⟩ := gd_s hf
      refine va_iald hx hb hK hP 4 0 (f := sMo.2.2.1 16) a_Mo_16 rfl (vpb_in g2) dX11_receiptLine_18 ?_
      refine lv_topi (fun v3 ev3 => ?_)
      have hf := lz_s hf v3 ev3
      refine lv_imul hx hb dX11_receiptLine_19 ?_
      refine lv_iadd hx hb dX11_receiptLine_20 ?_
      refine lv_topi (fun v4 ev4 => ?_)
      have hf := lz_s hf v4 ev4
      refine lv_istore_n (lv' := [(1, .int v4), (0, .ref (hMo 99))]) hx hb dX11_receiptLine_21 rfl hl (by decide) rfl (fun ls hl => ?_)
      refine lv_aload_n hx hb dX11_receiptLine_22 rfl (lv_at hl 1 rfl) ?_
      obtain ⟨o5, go5, hf⟩ := bd_s hf
      refine rs_Viz (As := []) (rest := []) ⟨hx, hb, hml, hown, hts⟩ (c_X11_placeHere l D K F adK adV tF hMo H.size sMo o5 go5) (cwV 0 hts (gcV_X11_placeHere (mB22 _ (List.mem_of_getElem? (i := 5) rfl))) rfl rfl rfl hdV_X11_placeHere ⟨Nat.le_of_ble_eq_true rfl, Nat.le_of_ble_eq_true rfl⟩) hK hP hD hS hA hZ (va_recv hK hP (ci := 10) (q0 := 0) rfl o_Mo) rfl hl.1 rfl (Nat.le_of_ble_eq_true rfl) dX11_receiptLine_23 ⟨Nat.zero_le _, Nat.zero_le _⟩ (fun H locs hP hD hS => ?_)
      have hP : va_P D vwCl (wMo K hMo o5.2) H := hP
      have hD : va_D A (wMo K hMo o5.2) := hD
      refine lv_istore_n (lv' := [(2, .int o5.1), (1, .int v4), (0, .ref (hMo 99))]) hx hb dX11_receiptLine_26 rfl hl (by decide) rfl (fun ls hl => ?_)
      refine lv_aload_n hx hb dX11_receiptLine_27 rfl (lv_at hl 2 rfl) ?_
      refine va_get (D := D) (ci := 10) (v := .int (o5.2.1 13)) (C := RX11) (T := TX11) (N := 41) hx hb hts iX11 hown hK hP 0 o_Mo rfl 13 (by decide) (htl _ (mB17 _ (List.mem_of_getElem? (i := 23) rfl))) (fun _ h9 => h9) rfl dX11_receiptLine_28 ?_
      refine lv_if_ne (tgt := 58) hx hb dX11_receiptLine_31 (by decide) (fun c6 => ?_) (fun c6 => ?_)
      · have hf := it_f hf c6
        exact w58 v4 o5.1 o5.2 H locs ls hf hP hD hS (lv_sub hl [2, 1, 0] rfl)
      · have hf := it_t hf c6
        refine lv_aload_n hx hb dX11_receiptLine_34 rfl (lv_at hl 2 rfl) ?_
        refine va_get (D := D) (ci := 10) (v := .ref (hMo 16)) (C := RX11) (T := TX11) (N := 41) hx hb hts iX11 hown hK hP 0 o_Mo rfl 16 (by decide) (htl _ (mB6 _ (List.mem_of_getElem? (i := 4) rfl))) (fun _ h9 => h9) rfl dX11_receiptLine_35 ?_
        refine lv_bipush (v := (11 : Int32)) hx hb dX11_receiptLine_38 (by decide) ?_
        refine lv_iconst (v := (3 : Int32)) hx hb dX11_receiptLine_40 (by decide) ?_
        refine lv_iload_n hx hb dX11_receiptLine_41 rfl (lv_at hl 0 rfl) ?_
        refine lv_imul hx hb dX11_receiptLine_42 ?_
        refine lv_iadd hx hb dX11_receiptLine_43 ?_
        obtain ⟨g7, hf⟩ := gd_s hf
        refine va_iald hx hb hK hP 4 0 (f := o5.2.2.2.1 16) a_Mo_16 rfl (vpb_in g7) dX11_receiptLine_44 ?_
        refine lv_topi (fun v8 ev8 => ?_)
        have hf := lz_s hf v8 ev8
        refine lv_if_ne (tgt := 58) hx hb dX11_receiptLine_45 (by decide) (fun c9 => ?_) (fun c9 => ?_)
        · have hf := it_f hf c9
          exact w58 v4 o5.1 o5.2 H locs ls hf hP hD hS (lv_sub hl [2, 1, 0] rfl)
        · have hf := it_t hf c9
          refine lv_aload_n hx hb dX11_receiptLine_48 rfl (lv_at hl 2 rfl) ?_
          refine lv_bipush (v := (7 : Int32)) hx hb dX11_receiptLine_49 (by decide) ?_
          refine lv_aload_n hx hb dX11_receiptLine_51 rfl (lv_at hl 2 rfl) ?_
          refine va_get (D := D) (ci := 10) (v := .int (o5.2.1 4)) (C := RX11) (T := TX11) (N := 41) hx hb hts iX11 hown hK hP 0 o_Mo rfl 4 (by decide) (htl _ (mB18 _ (List.mem_of_getElem? (i := 3) rfl))) (fun _ h9 => h9) rfl dX11_receiptLine_52 ?_
          obtain ⟨o10, go10, hf⟩ := bd_s hf
          refine rs_Vv (As := [.int (7 : Int32), .int (o5.2.1 4)]) (rest := []) ⟨hx, hb, hml, hown, hts⟩ (c_X11_wrong l D K F hMo H.size o5.2 (7 : Int32) (o5.2.1 4) o10 go10) (cwV 2 hts (gcV_X11_wrong (mB20 _ (List.mem_of_getElem? (i := 1) rfl))) rfl rfl rfl hdV_X11_wrong ⟨Nat.le_of_ble_eq_true rfl, Nat.le_of_ble_eq_true rfl⟩) hK hP hD hS hA (va_recv hK hP (ci := 10) (q0 := 0) rfl o_Mo) rfl hl.1 rfl (Nat.le_of_ble_eq_true rfl) dX11_receiptLine_55 ⟨Nat.zero_le _, Nat.zero_le _⟩ (fun H locs hP hD hS => ?_)
          have hP : va_P D vwCl (wMo K hMo o10) H := hP
          have hD : va_D A (wMo K hMo o10) := hD
          exact w58 v4 o5.1 o10 H locs ls hf hP hD hS (lv_sub hl [2, 1, 0] rfl)
    · have hf := it_f hf c1
      have e9 := Option.some.inj hf
      rw [hQ]
      exact W.vret hx hb hr (fun t ht hW => ⟨⟨sMo, rfl, e9, ⟨by rw [ht]; exact hP, va_K.moved hW.alike hK, hD⟩⟩, hS.F ht⟩) hS.2.2 dX11_receiptLine_7
  rw [hHe] at hgo
  exact hgo

theorem gcV_X11_carLine {T0 : Cond} {own : String} {i : Nat} (h : Cond.methodLink own i yX11_carLine ∈ wsL_law) : GoodIn (T0 :: wsL_law) (wsV own i RX11 yX11_carLine wz_X11_carLine) := gV h (mB19 _ (List.mem_of_getElem? (i := 22) rfl)) (mB19 _ (List.mem_of_getElem? (i := 23) rfl)) (mB1 _ (List.mem_of_getElem? (i := 5) rfl)) (mB20 _ (List.mem_of_getElem? (i := 0) rfl))
theorem hdV_X11_carLine : yX11_carLine.cls = RX11 ∧ yX11_carLine.cls ≠ "java/lang/invoke/MethodHandle" ∧ yX11_carLine.cls ≠ "java/lang/invoke/VarHandle" ∧ (parseMethodDescriptor yX11_carLine.desc).map (fun d => d.parameters.length) = some 0 := by decide +kernel
theorem gcV_X11_begins {T0 : Cond} {own : String} {i : Nat} (h : Cond.methodLink own i yX11_begins ∈ wsL_law) : GoodIn (T0 :: wsL_law) (wsV own i RX11 yX11_begins wz_X11_begins) := gV h (mB21 _ (List.mem_of_getElem? (i := 6) rfl)) (mB21 _ (List.mem_of_getElem? (i := 7) rfl)) (mB1 _ (List.mem_of_getElem? (i := 5) rfl)) (mB21 _ (List.mem_of_getElem? (i := 8) rfl))
theorem hdV_X11_begins : yX11_begins.cls = RX11 ∧ yX11_begins.cls ≠ "java/lang/invoke/MethodHandle" ∧ yX11_begins.cls ≠ "java/lang/invoke/VarHandle" ∧ (parseMethodDescriptor yX11_begins.desc).map (fun d => d.parameters.length) = some 2 := by decide +kernel
theorem gcV_X11_placeLine {T0 : Cond} {own : String} {i : Nat} (h : Cond.methodLink own i yX11_placeLine ∈ wsL_law) : GoodIn (T0 :: wsL_law) (wsV own i RX11 yX11_placeLine wz_X11_placeLine) := gV h (mB21 _ (List.mem_of_getElem? (i := 10) rfl)) (mB21 _ (List.mem_of_getElem? (i := 11) rfl)) (mB1 _ (List.mem_of_getElem? (i := 5) rfl)) (mB21 _ (List.mem_of_getElem? (i := 12) rfl))
theorem hdV_X11_placeLine : yX11_placeLine.cls = RX11 ∧ yX11_placeLine.cls ≠ "java/lang/invoke/MethodHandle" ∧ yX11_placeLine.cls ≠ "java/lang/invoke/VarHandle" ∧ (parseMethodDescriptor yX11_placeLine.desc).map (fun d => d.parameters.length) = some 0 := by decide +kernel
theorem gcV_X11_roadLine {T0 : Cond} {own : String} {i : Nat} (h : Cond.methodLink own i yX11_roadLine ∈ wsL_law) : GoodIn (T0 :: wsL_law) (wsV own i RX11 yX11_roadLine wz_X11_roadLine) := gV h (mB21 _ (List.mem_of_getElem? (i := 22) rfl)) (mB21 _ (List.mem_of_getElem? (i := 23) rfl)) (mB1 _ (List.mem_of_getElem? (i := 5) rfl)) (mB22 _ (List.mem_of_getElem? (i := 0) rfl))
theorem hdV_X11_roadLine : yX11_roadLine.cls = RX11 ∧ yX11_roadLine.cls ≠ "java/lang/invoke/MethodHandle" ∧ yX11_roadLine.cls ≠ "java/lang/invoke/VarHandle" ∧ (parseMethodDescriptor yX11_roadLine.desc).map (fun d => d.parameters.length) = some 0 := by decide +kernel
theorem gcV_X11_wayLine {T0 : Cond} {own : String} {i : Nat} (h : Cond.methodLink own i yX11_wayLine ∈ wsL_law) : GoodIn (T0 :: wsL_law) (wsV own i RX11 yX11_wayLine wz_X11_wayLine) := gV h (mB22 _ (List.mem_of_getElem? (i := 14) rfl)) (mB22 _ (List.mem_of_getElem? (i := 15) rfl)) (mB1 _ (List.mem_of_getElem? (i := 5) rfl)) (mB22 _ (List.mem_of_getElem? (i := 16) rfl))
theorem hdV_X11_wayLine : yX11_wayLine.cls = RX11 ∧ yX11_wayLine.cls ≠ "java/lang/invoke/MethodHandle" ∧ yX11_wayLine.cls ≠ "java/lang/invoke/VarHandle" ∧ (parseMethodDescriptor yX11_wayLine.desc).map (fun d => d.parameters.length) = some 0 := by decide +kernel
theorem gcV_X11_pumpLine {T0 : Cond} {own : String} {i : Nat} (h : Cond.methodLink own i yX11_pumpLine ∈ wsL_law) : GoodIn (T0 :: wsL_law) (wsV own i RX11 yX11_pumpLine wz_X11_pumpLine) := gV h (mB22 _ (List.mem_of_getElem? (i := 10) rfl)) (mB22 _ (List.mem_of_getElem? (i := 11) rfl)) (mB1 _ (List.mem_of_getElem? (i := 5) rfl)) (mB22 _ (List.mem_of_getElem? (i := 12) rfl))
theorem hdV_X11_pumpLine : yX11_pumpLine.cls = RX11 ∧ yX11_pumpLine.cls ≠ "java/lang/invoke/MethodHandle" ∧ yX11_pumpLine.cls ≠ "java/lang/invoke/VarHandle" ∧ (parseMethodDescriptor yX11_pumpLine.desc).map (fun d => d.parameters.length) = some 0 := by decide +kernel
theorem gcV_X11_receiptLine {T0 : Cond} {own : String} {i : Nat} (h : Cond.methodLink own i yX11_receiptLine ∈ wsL_law) : GoodIn (T0 :: wsL_law) (wsV own i RX11 yX11_receiptLine wz_X11_receiptLine) := gV h (mB22 _ (List.mem_of_getElem? (i := 18) rfl)) (mB22 _ (List.mem_of_getElem? (i := 19) rfl)) (mB1 _ (List.mem_of_getElem? (i := 5) rfl)) (mB22 _ (List.mem_of_getElem? (i := 20) rfl))
theorem hdV_X11_receiptLine : yX11_receiptLine.cls = RX11 ∧ yX11_receiptLine.cls ≠ "java/lang/invoke/MethodHandle" ∧ yX11_receiptLine.cls ≠ "java/lang/invoke/VarHandle" ∧ (parseMethodDescriptor yX11_receiptLine.desc).map (fun d => d.parameters.length) = some 0 := by decide +kernel
def wz_X11_readLine : List Cond := .code yX11_readLine cX11_readLine 1 none :: wsL_law
abbrev r_X11_readLine : Room := { frames := 9, cells := 0, slots := 0, locals := 198 }
set_option maxHeartbeats 4000000 in
set_option maxRecDepth 100000 in
theorem c_X11_readLine (l : Launch) (D : va_G) (K : Nat → ClassId) (F : Nat) (adK adV : Nat → Nat) (tF : Nat) (hMo : Nat → Nat) (sz : Nat) (sMo : MS) (res : MS) (hf : f_X11_readLine F sMo = some res) : Met l yX11_readLine wz_X11_readLine r_X11_readLine (va_Pc [.ref (hMo 99)] (PWz D K adK adV tF (wMo K hMo sMo) sz)) (va_Qv (fun u => u = res) (fun u t => BW D K (va_A (wMo K hMo sMo) sz) (wMo K hMo u) t) (va_A (wMo K hMo sMo) sz)) 0 0 (va_A (wMo K hMo sMo) sz) := by
  refine Met.ofW (cc := cX11_readLine) (maxL := 1) (ret := none) (by decide) rfl ?_
  intro p e s m args below meth c s₁ B hml hv
  obtain ⟨hargs, ⟨hsz, hP, hK, hD0⟩, hZ⟩ := hv
  have hx := B.exec
  have hb := B.bytes
  have hr := B.returns
  have hts := atoms_spec (ws := wz_X11_readLine) B.pre
  have htl : ∀ w ∈ wsL_law, w.before args s = true := fun w h => hts w (List.mem_cons_of_mem _ h)
  have hown : s.vm.findClass RX11 = some m.cls := findClass_of_methodNamed B.named
  have hlocks := B.notSynchronized
  subst hsz
  have hD := hD0.self (sz := s.heap.size)
  generalize hAe : va_A (wMo K hMo sMo) s.heap.size = A at hD hZ ⊢
  have hA : ∀ q : Nat, s.heap.size ≤ q → A q := fun q h => by rw [← hAe]; exact Or.inr h
  have hS : va_S A s.heap s.heap [] := va_S.rf
  have iX11 : ∀ w ∈ wsX110, w ∈ wz_X11_readLine := fun w h => List.mem_cons_of_mem _ (inlX11 w h)
  suffices hgo : ∀ Q : State → Prop, Q = MQ below (va_Qv (fun u => u = res) (fun u t => BW D K A (wMo K hMo u) t) A) args s 0 0 A → W p l e (headSpec wz_X11_readLine r_X11_readLine).room s m args below meth c s.heap [] 0 0 Q (entryFrame m args 1) from hgo _ rfl
  intro Q hQ
  have w149 : ∀ (y2 : Int32), ∀ (sMo : MS), ∀ (H : Heap) (locs : List Loc) (ls : Array Slot), f_X11_readLine_149 F y2 sMo = some res → va_P D vwCl (wMo K hMo sMo) H → va_D A (wMo K hMo sMo) → va_S A s.heap H locs → lv_has ls 1 [(0, .ref (hMo 99))] → W p l e (headSpec wz_X11_readLine r_X11_readLine).room s m args below meth c H locs 0 0 Q (F0 m 149 ls [.int y2, .ref (adK 5), .ref (hMo 99)]) := by
    intro y2 sMo H locs ls hf hP hD hS hl
    unfold f_X11_readLine_149 at hf
    obtain ⟨o28, go28, hf⟩ := bd_s hf
    refine rs_Viz (As := [.ref (adK 5), .int y2]) (rest := []) ⟨hx, hb, hml, hown, hts⟩ (c_X11_begins l D K F adK adV tF hMo H.size sMo 5 y2 o28 go28) (cwV 2 hts (gcV_X11_begins (mB21 _ (List.mem_of_getElem? (i := 5) rfl))) rfl rfl rfl hdV_X11_begins ⟨Nat.le_of_ble_eq_true rfl, Nat.le_of_ble_eq_true rfl⟩) hK hP hD hS hA hZ (va_recv hK hP (ci := 10) (q0 := 0) rfl o_Mo) rfl hl.1 rfl (Nat.le_of_ble_eq_true rfl) dX11_readLine_149 ⟨Nat.zero_le _, Nat.zero_le _⟩ (fun H locs hP hD hS => ?_)
    have hP : va_P D vwCl (wMo K hMo o28.2) H := hP
    have hD : va_D A (wMo K hMo o28.2) := hD
    refine lv_if_eq (tgt := 162) hx hb dX11_readLine_152 (by decide) (fun c29 => ?_) (fun c29 => ?_)
    · have hf := it_t hf c29
      refine lv_aload_n hx hb dX11_readLine_162 rfl (lv_at hl 0 rfl) ?_
      refine lv_iconst (v := (1 : Int32)) hx hb dX11_readLine_163 (by decide) ?_
      refine lv_aload_n hx hb dX11_readLine_164 rfl (lv_at hl 0 rfl) ?_
      refine va_get (D := D) (ci := 10) (v := .int (o28.2.1 4)) (C := RX11) (T := TX11) (N := 41) hx hb hts iX11 hown hK hP 0 o_Mo rfl 4 (by decide) (htl _ (mB18 _ (List.mem_of_getElem? (i := 3) rfl))) (fun _ h9 => h9) rfl dX11_readLine_165 ?_
      obtain ⟨o30, go30, hf⟩ := bd_s hf
      refine rs_Vv (As := [.int (1 : Int32), .int (o28.2.1 4)]) (rest := []) ⟨hx, hb, hml, hown, hts⟩ (c_X11_wrong l D K F hMo H.size o28.2 (1 : Int32) (o28.2.1 4) o30 go30) (cwV 2 hts (gcV_X11_wrong (mB20 _ (List.mem_of_getElem? (i := 1) rfl))) rfl rfl rfl hdV_X11_wrong ⟨Nat.le_of_ble_eq_true rfl, Nat.le_of_ble_eq_true rfl⟩) hK hP hD hS hA (va_recv hK hP (ci := 10) (q0 := 0) rfl o_Mo) rfl hl.1 rfl (Nat.le_of_ble_eq_true rfl) dX11_readLine_168 ⟨Nat.zero_le _, Nat.zero_le _⟩ (fun H locs hP hD hS => ?_)
      have hP : va_P D vwCl (wMo K hMo o30) H := hP
      have hD : va_D A (wMo K hMo o30) := hD
      have e9 := Option.some.inj hf
      rw [hQ]
      exact W.vret hx hb hr (fun t ht hW => ⟨⟨o30, rfl, e9, ⟨by rw [ht]; exact hP, va_K.moved hW.alike hK, hD⟩⟩, hS.F ht⟩) hS.2.2 dX11_readLine_171
    · have hf := it_f hf c29
      refine lv_aload_n hx hb dX11_readLine_155 rfl (lv_at hl 0 rfl) ?_
      obtain ⟨o31, go31, hf⟩ := bd_s hf
      refine rs_Vvz (As := []) (rest := []) ⟨hx, hb, hml, hown, hts⟩ (c_X11_receiptLine l D K F adK adV tF hMo H.size o28.2 o31 go31) (cwV 0 hts (gcV_X11_receiptLine (mB22 _ (List.mem_of_getElem? (i := 17) rfl))) rfl rfl rfl hdV_X11_receiptLine ⟨Nat.le_of_ble_eq_true rfl, Nat.le_of_ble_eq_true rfl⟩) hK hP hD hS hA hZ (va_recv hK hP (ci := 10) (q0 := 0) rfl o_Mo) rfl hl.1 rfl (Nat.le_of_ble_eq_true rfl) dX11_readLine_156 ⟨Nat.zero_le _, Nat.zero_le _⟩ (fun H locs hP hD hS => ?_)
      have hP : va_P D vwCl (wMo K hMo o31) H := hP
      have hD : va_D A (wMo K hMo o31) := hD
      refine lv_goto (tgt := 171) hx hb dX11_readLine_159 (by decide) ?_
      have e9 := Option.some.inj hf
      rw [hQ]
      exact W.vret hx hb hr (fun t ht hW => ⟨⟨o31, rfl, e9, ⟨by rw [ht]; exact hP, va_K.moved hW.alike hK, hD⟩⟩, hS.F ht⟩) hS.2.2 dX11_readLine_171
  have w101 : ∀ (y2 : Int32), ∀ (sMo : MS), ∀ (H : Heap) (locs : List Loc) (ls : Array Slot), f_X11_readLine_101 F y2 sMo = some res → va_P D vwCl (wMo K hMo sMo) H → va_D A (wMo K hMo sMo) → va_S A s.heap H locs → lv_has ls 1 [(0, .ref (hMo 99))] → W p l e (headSpec wz_X11_readLine r_X11_readLine).room s m args below meth c H locs 0 0 Q (F0 m 101 ls [.int y2, .ref (adK 3), .ref (hMo 99)]) := by
    intro y2 sMo H locs ls hf hP hD hS hl
    unfold f_X11_readLine_101 at hf
    obtain ⟨o19, go19, hf⟩ := bd_s hf
    refine rs_Viz (As := [.ref (adK 3), .int y2]) (rest := []) ⟨hx, hb, hml, hown, hts⟩ (c_X11_begins l D K F adK adV tF hMo H.size sMo 3 y2 o19 go19) (cwV 2 hts (gcV_X11_begins (mB21 _ (List.mem_of_getElem? (i := 5) rfl))) rfl rfl rfl hdV_X11_begins ⟨Nat.le_of_ble_eq_true rfl, Nat.le_of_ble_eq_true rfl⟩) hK hP hD hS hA hZ (va_recv hK hP (ci := 10) (q0 := 0) rfl o_Mo) rfl hl.1 rfl (Nat.le_of_ble_eq_true rfl) dX11_readLine_101 ⟨Nat.zero_le _, Nat.zero_le _⟩ (fun H locs hP hD hS => ?_)
    have hP : va_P D vwCl (wMo K hMo o19.2) H := hP
    have hD : va_D A (wMo K hMo o19.2) := hD
    refine lv_if_eq (tgt := 114) hx hb dX11_readLine_104 (by decide) (fun c20 => ?_) (fun c20 => ?_)
    · have hf := it_t hf c20
      refine lv_aload_n hx hb dX11_readLine_114 rfl (lv_at hl 0 rfl) ?_
      refine va_ldcS (own := RX11) (index := 146) (tx := "way") (q := adK 4) hx hb hown (hZ.2.2.2 (RX11, 146, "way", 4) (List.mem_of_getElem? (i := 4) rfl)) dX11_readLine_115 ?_
      obtain ⟨o21, go21, hf⟩ := bd_s hf
      refine ro_Viz (As := [.ref (adK 4)]) (rest := []) ⟨hx, hb, hml, hown, hts⟩ (c_X11_isWord l D K F adK adV tF hMo o19.2 4 o21 go21) (cwV 1 hts (gcV_X11_isWord (mB19 _ (List.mem_of_getElem? (i := 15) rfl))) rfl rfl rfl hdV_X11_isWord ⟨Nat.le_of_ble_eq_true rfl, Nat.le_of_ble_eq_true rfl⟩) hK hP hS hZ hP (va_recv hK hP (ci := 10) (q0 := 0) rfl o_Mo) rfl hl.1 rfl (Nat.le_of_ble_eq_true rfl) dX11_readLine_117 ⟨Nat.zero_le _, Nat.zero_le _⟩ (fun H locs hP hS => ?_)
      refine lv_if_eq (tgt := 130) hx hb dX11_readLine_120 (by decide) (fun c22 => ?_) (fun c22 => ?_)
      · have hf := it_t hf c22
        refine lv_aload_n hx hb dX11_readLine_130 rfl (lv_at hl 0 rfl) ?_
        refine va_ldcS (own := RX11) (index := 148) (tx := "receipt") (q := adK 5) hx hb hown (hZ.2.2.2 (RX11, 148, "receipt", 5) (List.mem_of_getElem? (i := 5) rfl)) dX11_readLine_131 ?_
        refine lv_aload_n hx hb dX11_readLine_133 rfl (lv_at hl 0 rfl) ?_
        refine va_get (D := D) (ci := 10) (v := .ref (hMo 16)) (C := RX11) (T := TX11) (N := 41) hx hb hts iX11 hown hK hP 0 o_Mo rfl 16 (by decide) (htl _ (mB6 _ (List.mem_of_getElem? (i := 4) rfl))) (fun _ h9 => h9) rfl dX11_readLine_134 ?_
        refine lv_bipush (v := (9 : Int32)) hx hb dX11_readLine_137 (by decide) ?_
        obtain ⟨g23, hf⟩ := gd_s hf
        refine va_iald hx hb hK hP 4 0 (f := o19.2.2.2.1 16) a_Mo_16 rfl (vpb_in g23) dX11_readLine_139 ?_
        refine lv_topi (fun v24 ev24 => ?_)
        have hf := lz_s hf v24 ev24
        refine lv_iconst (v := (5 : Int32)) hx hb dX11_readLine_140 (by decide) ?_
        refine lv_icmp_ge (tgt := 148) hx hb dX11_readLine_141 (by decide) (fun c25 => ?_) (fun c25 => ?_)
        · have hf := it_t hf c25
          refine lv_iconst (v := (0 : Int32)) hx hb dX11_readLine_148 (by decide) ?_
          exact w149 (0 : Int32) o19.2 H locs ls hf hP hD hS (lv_sub hl [0] rfl)
        · have hf := it_f hf c25
          refine lv_iconst (v := (1 : Int32)) hx hb dX11_readLine_144 (by decide) ?_
          refine lv_goto (tgt := 149) hx hb dX11_readLine_145 (by decide) ?_
          exact w149 (1 : Int32) o19.2 H locs ls hf hP hD hS (lv_sub hl [0] rfl)
      · have hf := it_f hf c22
        refine lv_aload_n hx hb dX11_readLine_123 rfl (lv_at hl 0 rfl) ?_
        obtain ⟨o26, go26, hf⟩ := bd_s hf
        refine rs_Vvz (As := []) (rest := []) ⟨hx, hb, hml, hown, hts⟩ (c_X11_wayLine l D K F adK adV tF hMo H.size o19.2 o26 go26) (cwV 0 hts (gcV_X11_wayLine (mB22 _ (List.mem_of_getElem? (i := 13) rfl))) rfl rfl rfl hdV_X11_wayLine ⟨Nat.le_of_ble_eq_true rfl, Nat.le_of_ble_eq_true rfl⟩) hK hP hD hS hA hZ (va_recv hK hP (ci := 10) (q0 := 0) rfl o_Mo) rfl hl.1 rfl (Nat.le_of_ble_eq_true rfl) dX11_readLine_124 ⟨Nat.zero_le _, Nat.zero_le _⟩ (fun H locs hP hD hS => ?_)
        have hP : va_P D vwCl (wMo K hMo o26) H := hP
        have hD : va_D A (wMo K hMo o26) := hD
        refine lv_goto (tgt := 171) hx hb dX11_readLine_127 (by decide) ?_
        have e9 := Option.some.inj hf
        rw [hQ]
        exact W.vret hx hb hr (fun t ht hW => ⟨⟨o26, rfl, e9, ⟨by rw [ht]; exact hP, va_K.moved hW.alike hK, hD⟩⟩, hS.F ht⟩) hS.2.2 dX11_readLine_171
    · have hf := it_f hf c20
      refine lv_aload_n hx hb dX11_readLine_107 rfl (lv_at hl 0 rfl) ?_
      obtain ⟨o27, go27, hf⟩ := bd_s hf
      refine rs_Vvz (As := []) (rest := []) ⟨hx, hb, hml, hown, hts⟩ (c_X11_pumpLine l D K F adK adV tF hMo H.size o19.2 o27 go27) (cwV 0 hts (gcV_X11_pumpLine (mB22 _ (List.mem_of_getElem? (i := 9) rfl))) rfl rfl rfl hdV_X11_pumpLine ⟨Nat.le_of_ble_eq_true rfl, Nat.le_of_ble_eq_true rfl⟩) hK hP hD hS hA hZ (va_recv hK hP (ci := 10) (q0 := 0) rfl o_Mo) rfl hl.1 rfl (Nat.le_of_ble_eq_true rfl) dX11_readLine_108 ⟨Nat.zero_le _, Nat.zero_le _⟩ (fun H locs hP hD hS => ?_)
      have hP : va_P D vwCl (wMo K hMo o27) H := hP
      have hD : va_D A (wMo K hMo o27) := hD
      refine lv_goto (tgt := 171) hx hb dX11_readLine_111 (by decide) ?_
      have e9 := Option.some.inj hf
      rw [hQ]
      exact W.vret hx hb hr (fun t ht hW => ⟨⟨o27, rfl, e9, ⟨by rw [ht]; exact hP, va_K.moved hW.alike hK, hD⟩⟩, hS.F ht⟩) hS.2.2 dX11_readLine_171
  have w68 : ∀ (y2 : Int32), ∀ (sMo : MS), ∀ (H : Heap) (locs : List Loc) (ls : Array Slot), f_X11_readLine_68 F y2 sMo = some res → va_P D vwCl (wMo K hMo sMo) H → va_D A (wMo K hMo sMo) → va_S A s.heap H locs → lv_has ls 1 [(0, .ref (hMo 99))] → W p l e (headSpec wz_X11_readLine r_X11_readLine).room s m args below meth c H locs 0 0 Q (F0 m 68 ls [.int y2, .ref (adK 2), .ref (hMo 99)]) := by
    intro y2 sMo H locs ls hf hP hD hS hl
    unfold f_X11_readLine_68 at hf
    obtain ⟨o13, go13, hf⟩ := bd_s hf
    refine rs_Viz (As := [.ref (adK 2), .int y2]) (rest := []) ⟨hx, hb, hml, hown, hts⟩ (c_X11_begins l D K F adK adV tF hMo H.size sMo 2 y2 o13 go13) (cwV 2 hts (gcV_X11_begins (mB21 _ (List.mem_of_getElem? (i := 5) rfl))) rfl rfl rfl hdV_X11_begins ⟨Nat.le_of_ble_eq_true rfl, Nat.le_of_ble_eq_true rfl⟩) hK hP hD hS hA hZ (va_recv hK hP (ci := 10) (q0 := 0) rfl o_Mo) rfl hl.1 rfl (Nat.le_of_ble_eq_true rfl) dX11_readLine_68 ⟨Nat.zero_le _, Nat.zero_le _⟩ (fun H locs hP hD hS => ?_)
    have hP : va_P D vwCl (wMo K hMo o13.2) H := hP
    have hD : va_D A (wMo K hMo o13.2) := hD
    refine lv_if_eq (tgt := 81) hx hb dX11_readLine_71 (by decide) (fun c14 => ?_) (fun c14 => ?_)
    · have hf := it_t hf c14
      refine lv_aload_n hx hb dX11_readLine_81 rfl (lv_at hl 0 rfl) ?_
      refine va_ldcS (own := RX11) (index := 144) (tx := "pump") (q := adK 3) hx hb hown (hZ.2.2.2 (RX11, 144, "pump", 3) (List.mem_of_getElem? (i := 3) rfl)) dX11_readLine_82 ?_
      refine lv_aload_n hx hb dX11_readLine_84 rfl (lv_at hl 0 rfl) ?_
      refine va_get (D := D) (ci := 10) (v := .ref (hMo 16)) (C := RX11) (T := TX11) (N := 41) hx hb hts iX11 hown hK hP 0 o_Mo rfl 16 (by decide) (htl _ (mB6 _ (List.mem_of_getElem? (i := 4) rfl))) (fun _ h9 => h9) rfl dX11_readLine_85 ?_
      refine lv_bipush (v := (7 : Int32)) hx hb dX11_readLine_88 (by decide) ?_
      obtain ⟨g15, hf⟩ := gd_s hf
      refine va_iald hx hb hK hP 4 0 (f := o13.2.2.2.1 16) a_Mo_16 rfl (vpb_in g15) dX11_readLine_90 ?_
      refine lv_topi (fun v16 ev16 => ?_)
      have hf := lz_s hf v16 ev16
      refine lv_bipush (v := (8 : Int32)) hx hb dX11_readLine_91 (by decide) ?_
      refine lv_icmp_ge (tgt := 100) hx hb dX11_readLine_93 (by decide) (fun c17 => ?_) (fun c17 => ?_)
      · have hf := it_t hf c17
        refine lv_iconst (v := (0 : Int32)) hx hb dX11_readLine_100 (by decide) ?_
        exact w101 (0 : Int32) o13.2 H locs ls hf hP hD hS (lv_sub hl [0] rfl)
      · have hf := it_f hf c17
        refine lv_iconst (v := (1 : Int32)) hx hb dX11_readLine_96 (by decide) ?_
        refine lv_goto (tgt := 101) hx hb dX11_readLine_97 (by decide) ?_
        exact w101 (1 : Int32) o13.2 H locs ls hf hP hD hS (lv_sub hl [0] rfl)
    · have hf := it_f hf c14
      refine lv_aload_n hx hb dX11_readLine_74 rfl (lv_at hl 0 rfl) ?_
      obtain ⟨o18, go18, hf⟩ := bd_s hf
      refine rs_Vvz (As := []) (rest := []) ⟨hx, hb, hml, hown, hts⟩ (c_X11_roadLine l D K F adK adV tF hMo H.size o13.2 o18 go18) (cwV 0 hts (gcV_X11_roadLine (mB21 _ (List.mem_of_getElem? (i := 21) rfl))) rfl rfl rfl hdV_X11_roadLine ⟨Nat.le_of_ble_eq_true rfl, Nat.le_of_ble_eq_true rfl⟩) hK hP hD hS hA hZ (va_recv hK hP (ci := 10) (q0 := 0) rfl o_Mo) rfl hl.1 rfl (Nat.le_of_ble_eq_true rfl) dX11_readLine_75 ⟨Nat.zero_le _, Nat.zero_le _⟩ (fun H locs hP hD hS => ?_)
      have hP : va_P D vwCl (wMo K hMo o18) H := hP
      have hD : va_D A (wMo K hMo o18) := hD
      refine lv_goto (tgt := 171) hx hb dX11_readLine_78 (by decide) ?_
      have e9 := Option.some.inj hf
      rw [hQ]
      exact W.vret hx hb hr (fun t ht hW => ⟨⟨o18, rfl, e9, ⟨by rw [ht]; exact hP, va_K.moved hW.alike hK, hD⟩⟩, hS.F ht⟩) hS.2.2 dX11_readLine_171
  have w35 : ∀ (y2 : Int32), ∀ (sMo : MS), ∀ (H : Heap) (locs : List Loc) (ls : Array Slot), f_X11_readLine_35 F y2 sMo = some res → va_P D vwCl (wMo K hMo sMo) H → va_D A (wMo K hMo sMo) → va_S A s.heap H locs → lv_has ls 1 [(0, .ref (hMo 99))] → W p l e (headSpec wz_X11_readLine r_X11_readLine).room s m args below meth c H locs 0 0 Q (F0 m 35 ls [.int y2, .ref (adK 1), .ref (hMo 99)]) := by
    intro y2 sMo H locs ls hf hP hD hS hl
    unfold f_X11_readLine_35 at hf
    obtain ⟨o7, go7, hf⟩ := bd_s hf
    refine rs_Viz (As := [.ref (adK 1), .int y2]) (rest := []) ⟨hx, hb, hml, hown, hts⟩ (c_X11_begins l D K F adK adV tF hMo H.size sMo 1 y2 o7 go7) (cwV 2 hts (gcV_X11_begins (mB21 _ (List.mem_of_getElem? (i := 5) rfl))) rfl rfl rfl hdV_X11_begins ⟨Nat.le_of_ble_eq_true rfl, Nat.le_of_ble_eq_true rfl⟩) hK hP hD hS hA hZ (va_recv hK hP (ci := 10) (q0 := 0) rfl o_Mo) rfl hl.1 rfl (Nat.le_of_ble_eq_true rfl) dX11_readLine_35 ⟨Nat.zero_le _, Nat.zero_le _⟩ (fun H locs hP hD hS => ?_)
    have hP : va_P D vwCl (wMo K hMo o7.2) H := hP
    have hD : va_D A (wMo K hMo o7.2) := hD
    refine lv_if_eq (tgt := 48) hx hb dX11_readLine_38 (by decide) (fun c8 => ?_) (fun c8 => ?_)
    · have hf := it_t hf c8
      refine lv_aload_n hx hb dX11_readLine_48 rfl (lv_at hl 0 rfl) ?_
      refine va_ldcS (own := RX11) (index := 142) (tx := "road") (q := adK 2) hx hb hown (hZ.2.2.2 (RX11, 142, "road", 2) (List.mem_of_getElem? (i := 2) rfl)) dX11_readLine_49 ?_
      refine lv_aload_n hx hb dX11_readLine_51 rfl (lv_at hl 0 rfl) ?_
      refine va_get (D := D) (ci := 10) (v := .ref (hMo 16)) (C := RX11) (T := TX11) (N := 41) hx hb hts iX11 hown hK hP 0 o_Mo rfl 16 (by decide) (htl _ (mB6 _ (List.mem_of_getElem? (i := 4) rfl))) (fun _ h9 => h9) rfl dX11_readLine_52 ?_
      refine lv_bipush (v := (6 : Int32)) hx hb dX11_readLine_55 (by decide) ?_
      obtain ⟨g9, hf⟩ := gd_s hf
      refine va_iald hx hb hK hP 4 0 (f := o7.2.2.2.1 16) a_Mo_16 rfl (vpb_in g9) dX11_readLine_57 ?_
      refine lv_topi (fun v10 ev10 => ?_)
      have hf := lz_s hf v10 ev10
      refine lv_bipush (v := (14 : Int32)) hx hb dX11_readLine_58 (by decide) ?_
      refine lv_icmp_ge (tgt := 67) hx hb dX11_readLine_60 (by decide) (fun c11 => ?_) (fun c11 => ?_)
      · have hf := it_t hf c11
        refine lv_iconst (v := (0 : Int32)) hx hb dX11_readLine_67 (by decide) ?_
        exact w68 (0 : Int32) o7.2 H locs ls hf hP hD hS (lv_sub hl [0] rfl)
      · have hf := it_f hf c11
        refine lv_iconst (v := (1 : Int32)) hx hb dX11_readLine_63 (by decide) ?_
        refine lv_goto (tgt := 68) hx hb dX11_readLine_64 (by decide) ?_
        exact w68 (1 : Int32) o7.2 H locs ls hf hP hD hS (lv_sub hl [0] rfl)
    · have hf := it_f hf c8
      refine lv_aload_n hx hb dX11_readLine_41 rfl (lv_at hl 0 rfl) ?_
      obtain ⟨o12, go12, hf⟩ := bd_s hf
      refine rs_Vvz (As := []) (rest := []) ⟨hx, hb, hml, hown, hts⟩ (c_X11_placeLine l D K F adK adV tF hMo H.size o7.2 o12 go12) (cwV 0 hts (gcV_X11_placeLine (mB21 _ (List.mem_of_getElem? (i := 9) rfl))) rfl rfl rfl hdV_X11_placeLine ⟨Nat.le_of_ble_eq_true rfl, Nat.le_of_ble_eq_true rfl⟩) hK hP hD hS hA hZ (va_recv hK hP (ci := 10) (q0 := 0) rfl o_Mo) rfl hl.1 rfl (Nat.le_of_ble_eq_true rfl) dX11_readLine_42 ⟨Nat.zero_le _, Nat.zero_le _⟩ (fun H locs hP hD hS => ?_)
      have hP : va_P D vwCl (wMo K hMo o12) H := hP
      have hD : va_D A (wMo K hMo o12) := hD
      refine lv_goto (tgt := 171) hx hb dX11_readLine_45 (by decide) ?_
      have e9 := Option.some.inj hf
      rw [hQ]
      exact W.vret hx hb hr (fun t ht hW => ⟨⟨o12, rfl, e9, ⟨by rw [ht]; exact hP, va_K.moved hW.alike hK, hD⟩⟩, hS.F ht⟩) hS.2.2 dX11_readLine_171
  have hen : entryFrame m args 1 = entryFrame m (([.ref (hMo 99)] : List Value).toArray) 1 := by rw [hargs]
  have hl := lv_entry ([.ref (hMo 99)]) (n := 1) (Nat.le_of_ble_eq_true rfl)
  rw [hen, lg_entry_eq]
  generalize (lg_sl ([.ref (hMo 99)]) ++ List.replicate (1 - (lg_sl ([.ref (hMo 99)])).length) Slot.unset).toArray = ls at hl ⊢
  have hl : lv_has ls 1 [(0, .ref (hMo 99))] := hl
  unfold f_X11_readLine at hf
  obtain ⟨H, hHe⟩ : ∃ z, z = s.heap := ⟨_, rfl⟩
  obtain ⟨locs, hLe⟩ : ∃ z : List Loc, z = [] := ⟨_, rfl⟩
  rw [← hLe]
  have hS : va_S A s.heap H locs := by rw [hHe, hLe]; exact hS
  have hP : va_P D vwCl (wMo K hMo sMo) H := by rw [hHe]; exact hP
  have hgo : W p l e (headSpec wz_X11_readLine r_X11_readLine).room s m args below meth c H locs 0 0 Q (F0 m 0 ls []) := by
    refine lv_aload_n hx hb dX11_readLine_0 rfl (lv_at hl 0 rfl) ?_
    refine va_ldcS (own := RX11) (index := 139) (tx := "ca\x72") (q := adK 0) hx hb hown (hZ.2.2.2 (RX11, 139, "ca\x72", 0) (List.mem_of_getElem? (i := 0) rfl)) dX11_readLine_1 ?_
    obtain ⟨o1, go1, hf⟩ := bd_s hf
    refine ro_Viz (As := [.ref (adK 0)]) (rest := []) ⟨hx, hb, hml, hown, hts⟩ (c_X11_isWord l D K F adK adV tF hMo sMo 0 o1 go1) (cwV 1 hts (gcV_X11_isWord (mB19 _ (List.mem_of_getElem? (i := 15) rfl))) rfl rfl rfl hdV_X11_isWord ⟨Nat.le_of_ble_eq_true rfl, Nat.le_of_ble_eq_true rfl⟩) hK hP hS hZ hP (va_recv hK hP (ci := 10) (q0 := 0) rfl o_Mo) rfl hl.1 rfl (Nat.le_of_ble_eq_true rfl) dX11_readLine_3 ⟨Nat.zero_le _, Nat.zero_le _⟩ (fun H locs hP hS => ?_)
    refine lv_if_eq (tgt := 16) hx hb dX11_readLine_6 (by decide) (fun c2 => ?_) (fun c2 => ?_)
    · have hf := it_t hf c2
      refine lv_aload_n hx hb dX11_readLine_16 rfl (lv_at hl 0 rfl) ?_
      refine va_ldcS (own := RX11) (index := 141) (tx := "place") (q := adK 1) hx hb hown (hZ.2.2.2 (RX11, 141, "place", 1) (List.mem_of_getElem? (i := 1) rfl)) dX11_readLine_17 ?_
      refine lv_aload_n hx hb dX11_readLine_19 rfl (lv_at hl 0 rfl) ?_
      refine va_get (D := D) (ci := 10) (v := .ref (hMo 16)) (C := RX11) (T := TX11) (N := 41) hx hb hts iX11 hown hK hP 0 o_Mo rfl 16 (by decide) (htl _ (mB6 _ (List.mem_of_getElem? (i := 4) rfl))) (fun _ h9 => h9) rfl dX11_readLine_20 ?_
      refine lv_iconst (v := (5 : Int32)) hx hb dX11_readLine_23 (by decide) ?_
      obtain ⟨g3, hf⟩ := gd_s hf
      refine va_iald hx hb hK hP 4 0 (f := sMo.2.2.1 16) a_Mo_16 rfl (vpb_in g3) dX11_readLine_24 ?_
      refine lv_topi (fun v4 ev4 => ?_)
      have hf := lz_s hf v4 ev4
      refine lv_bipush (v := (9 : Int32)) hx hb dX11_readLine_25 (by decide) ?_
      refine lv_icmp_ge (tgt := 34) hx hb dX11_readLine_27 (by decide) (fun c5 => ?_) (fun c5 => ?_)
      · have hf := it_t hf c5
        refine lv_iconst (v := (0 : Int32)) hx hb dX11_readLine_34 (by decide) ?_
        exact w35 (0 : Int32) sMo H locs ls hf hP hD hS (lv_sub hl [0] rfl)
      · have hf := it_f hf c5
        refine lv_iconst (v := (1 : Int32)) hx hb dX11_readLine_30 (by decide) ?_
        refine lv_goto (tgt := 35) hx hb dX11_readLine_31 (by decide) ?_
        exact w35 (1 : Int32) sMo H locs ls hf hP hD hS (lv_sub hl [0] rfl)
    · have hf := it_f hf c2
      refine lv_aload_n hx hb dX11_readLine_9 rfl (lv_at hl 0 rfl) ?_
      obtain ⟨o6, go6, hf⟩ := bd_s hf
      refine rs_Vvz (As := []) (rest := []) ⟨hx, hb, hml, hown, hts⟩ (c_X11_carLine l D K F adK adV tF hMo H.size sMo o6 go6) (cwV 0 hts (gcV_X11_carLine (mB19 _ (List.mem_of_getElem? (i := 21) rfl))) rfl rfl rfl hdV_X11_carLine ⟨Nat.le_of_ble_eq_true rfl, Nat.le_of_ble_eq_true rfl⟩) hK hP hD hS hA hZ (va_recv hK hP (ci := 10) (q0 := 0) rfl o_Mo) rfl hl.1 rfl (Nat.le_of_ble_eq_true rfl) dX11_readLine_10 ⟨Nat.zero_le _, Nat.zero_le _⟩ (fun H locs hP hD hS => ?_)
      have hP : va_P D vwCl (wMo K hMo o6) H := hP
      have hD : va_D A (wMo K hMo o6) := hD
      refine lv_goto (tgt := 171) hx hb dX11_readLine_13 (by decide) ?_
      have e9 := Option.some.inj hf
      rw [hQ]
      exact W.vret hx hb hr (fun t ht hW => ⟨⟨o6, rfl, e9, ⟨by rw [ht]; exact hP, va_K.moved hW.alike hK, hD⟩⟩, hS.F ht⟩) hS.2.2 dX11_readLine_171
  rw [hHe] at hgo
  exact hgo

def wz_X11_pumpOf : List Cond := .code yX11_pumpOf cX11_pumpOf 3 (some .int) :: wsL_law
abbrev r_X11_pumpOf : Room := { frames := 0, cells := 0, slots := 0, locals := 0 }
set_option maxHeartbeats 4000000 in
set_option maxRecDepth 100000 in
theorem c_X11_pumpOf (l : Launch) (D : va_G) (K : Nat → ClassId) (F : Nat) (hMo : Nat → Nat) (sMo : MS) (p1 : Int32) (p2 : Int32) (res : Int32) (hf : f_X11_pumpOf F sMo p1 p2 = some res) : Met l yX11_pumpOf wz_X11_pumpOf r_X11_pumpOf (va_Pc [.ref (hMo 99), .int p1, .int p2] (PR D K (wMo K hMo sMo))) (va_Qi (fun r (_ : Unit) => r = res) BN nOne) 0 0 nOne := by
  refine Met.ofW (cc := cX11_pumpOf) (maxL := 3) (ret := (some .int)) (by decide) rfl ?_
  intro p e s m args below meth c s₁ B hml hv
  obtain ⟨hargs, hP, hK⟩ := hv
  have hx := B.exec
  have hb := B.bytes
  have hr := B.returns
  have hts := atoms_spec (ws := wz_X11_pumpOf) B.pre
  have htl : ∀ w ∈ wsL_law, w.before args s = true := fun w h => hts w (List.mem_cons_of_mem _ h)
  have hown : s.vm.findClass RX11 = some m.cls := findClass_of_methodNamed B.named
  have hlocks := B.notSynchronized
  have hS : va_S nOne s.heap s.heap [] := va_S.rf
  have iX11 : ∀ w ∈ wsX110, w ∈ wz_X11_pumpOf := fun w h => List.mem_cons_of_mem _ (inlX11 w h)
  suffices hgo : ∀ Q : State → Prop, Q = MQ below (va_Qi (fun r (_ : Unit) => r = res) BN nOne) args s 0 0 nOne → W p l e (headSpec wz_X11_pumpOf r_X11_pumpOf).room s m args below meth c s.heap [] 0 0 Q (entryFrame m args 3) from hgo _ rfl
  intro Q hQ
  have hen : entryFrame m args 3 = entryFrame m (([.ref (hMo 99), .int p1, .int p2] : List Value).toArray) 3 := by rw [hargs]
  have hl := lv_entry ([.ref (hMo 99), .int p1, .int p2]) (n := 3) (Nat.le_of_ble_eq_true rfl)
  rw [hen, lg_entry_eq]
  generalize (lg_sl ([.ref (hMo 99), .int p1, .int p2]) ++ List.replicate (3 - (lg_sl ([.ref (hMo 99), .int p1, .int p2])).length) Slot.unset).toArray = ls at hl ⊢
  have hl : lv_has ls 3 [(0, .ref (hMo 99)), (1, .int p1), (2, .int p2)] := hl
  unfold f_X11_pumpOf at hf
  obtain ⟨H, hHe⟩ : ∃ z, z = s.heap := ⟨_, rfl⟩
  obtain ⟨locs, hLe⟩ : ∃ z : List Loc, z = [] := ⟨_, rfl⟩
  rw [← hLe]
  have hS : va_S nOne s.heap H locs := by rw [hHe, hLe]; exact hS
  have hP : va_P D vwCl (wMo K hMo sMo) H := by rw [hHe]; exact hP
  have hgo : W p l e (headSpec wz_X11_pumpOf r_X11_pumpOf).room s m args below meth c H locs 0 0 Q (F0 m 0 ls []) := by
    refine lv_aload_n hx hb dX11_pumpOf_0 rfl (lv_at hl 0 rfl) ?_
    refine va_get (D := D) (ci := 10) (v := .ref (hMo 15)) (C := RX11) (T := TX11) (N := 41) hx hb hts iX11 hown hK hP 0 o_Mo rfl 15 (by decide) (htl _ (mB6 _ (List.mem_of_getElem? (i := 3) rfl))) (fun _ h9 => h9) rfl dX11_pumpOf_1 ?_
    refine lv_bipush (v := (11 : Int32)) hx hb dX11_pumpOf_4 (by decide) ?_
    refine lv_iconst (v := (3 : Int32)) hx hb dX11_pumpOf_6 (by decide) ?_
    refine lv_iload_n hx hb dX11_pumpOf_7 rfl (lv_at hl 1 rfl) ?_
    refine lv_imul hx hb dX11_pumpOf_8 ?_
    refine lv_iadd hx hb dX11_pumpOf_9 ?_
    refine lv_iload_n hx hb dX11_pumpOf_10 rfl (lv_at hl 2 rfl) ?_
    refine lv_iadd hx hb dX11_pumpOf_11 ?_
    obtain ⟨g1, hf⟩ := gd_s hf
    refine va_iald hx hb hK hP 3 0 (f := sMo.2.2.1 15) a_Mo_15 rfl (vpb_in g1) dX11_pumpOf_12 ?_
    refine lv_topi (fun v2 ev2 => ?_)
    have hf := lz_s hf v2 ev2
    have e9 := Option.some.inj hf
    rw [hQ]
    exact W.iret (v := v2) hx hb hr (fun t ht hW => ⟨⟨v2, (), rfl, e9, trivial⟩, hS.F ht⟩) hS.2.2 dX11_pumpOf_13
  rw [hHe] at hgo
  exact hgo

def wz_X11_drawn : List Cond := .code yX11_drawn cX11_drawn 1 (some .int) :: wsL_law
abbrev r_X11_drawn : Room := { frames := 0, cells := 0, slots := 0, locals := 0 }
set_option maxHeartbeats 4000000 in
set_option maxRecDepth 100000 in
theorem c_X11_drawn (l : Launch) (D : va_G) (K : Nat → ClassId) (F : Nat) (p0 : Int32) (res : Int32) (hf : f_X11_drawn F p0 = some res) : Met l yX11_drawn wz_X11_drawn r_X11_drawn (va_Pc [.int p0] (PR D K (([] : va_W)))) (va_Qi (fun r (_ : Unit) => r = res) BN nOne) 0 0 nOne := by
  refine Met.ofW (cc := cX11_drawn) (maxL := 1) (ret := (some .int)) (by decide) rfl ?_
  intro p e s m args below meth c s₁ B hml hv
  obtain ⟨hargs, hP, hK⟩ := hv
  have hx := B.exec
  have hb := B.bytes
  have hr := B.returns
  have hts := atoms_spec (ws := wz_X11_drawn) B.pre
  have htl : ∀ w ∈ wsL_law, w.before args s = true := fun w h => hts w (List.mem_cons_of_mem _ h)
  have hown : s.vm.findClass RX11 = some m.cls := findClass_of_methodNamed B.named
  have hlocks := B.notSynchronized
  have hS : va_S nOne s.heap s.heap [] := va_S.rf
  suffices hgo : ∀ Q : State → Prop, Q = MQ below (va_Qi (fun r (_ : Unit) => r = res) BN nOne) args s 0 0 nOne → W p l e (headSpec wz_X11_drawn r_X11_drawn).room s m args below meth c s.heap [] 0 0 Q (entryFrame m args 1) from hgo _ rfl
  intro Q hQ
  have hen : entryFrame m args 1 = entryFrame m (([.int p0] : List Value).toArray) 1 := by rw [hargs]
  have hl := lv_entry ([.int p0]) (n := 1) (Nat.le_of_ble_eq_true rfl)
  rw [hen, lg_entry_eq]
  generalize (lg_sl ([.int p0]) ++ List.replicate (1 - (lg_sl ([.int p0])).length) Slot.unset).toArray = ls at hl ⊢
  have hl : lv_has ls 1 [(0, .int p0)] := hl
  unfold f_X11_drawn at hf
  obtain ⟨H, hHe⟩ : ∃ z, z = s.heap := ⟨_, rfl⟩
  obtain ⟨locs, hLe⟩ : ∃ z : List Loc, z = [] := ⟨_, rfl⟩
  rw [← hLe]
  have hS : va_S nOne s.heap H locs := by rw [hHe, hLe]; exact hS
  have hP : va_P D vwCl (([] : va_W)) H := by rw [hHe]; exact hP
  have hgo : W p l e (headSpec wz_X11_drawn r_X11_drawn).room s m args below meth c H locs 0 0 Q (F0 m 0 ls []) := by
    refine lv_bipush (v := (75 : Int32)) hx hb dX11_drawn_0 (by decide) ?_
    refine lv_iload_n hx hb dX11_drawn_2 rfl (lv_at hl 0 rfl) ?_
    refine lv_imul hx hb dX11_drawn_3 ?_
    refine lv_bipush (v := (74 : Int32)) hx hb dX11_drawn_4 (by decide) ?_
    refine lv_iadd hx hb dX11_drawn_6 ?_
    refine lv_ldcw (v := (65537 : Int32)) hx hb hown (htl _ (mB23 _ (List.mem_of_getElem? (i := 16) rfl))) dX11_drawn_7 ?_
    refine lv_irem hx hb dX11_drawn_10 (by decide) ?_
    refine lv_topi (fun v1 ev1 => ?_)
    have hf := lz_s hf v1 ev1
    have e9 := Option.some.inj hf
    rw [hQ]
    exact W.iret (v := v1) hx hb hr (fun t ht hW => ⟨⟨v1, (), rfl, e9, trivial⟩, hS.F ht⟩) hS.2.2 dX11_drawn_11
  rw [hHe] at hgo
  exact hgo

theorem gcV_X11_pumpOf {T0 : Cond} {own : String} {i : Nat} (h : Cond.methodLink own i yX11_pumpOf ∈ wsL_law) : GoodIn (T0 :: wsL_law) (wsV own i RX11 yX11_pumpOf wz_X11_pumpOf) := gV h (mB23 _ (List.mem_of_getElem? (i := 10) rfl)) (mB23 _ (List.mem_of_getElem? (i := 11) rfl)) (mB1 _ (List.mem_of_getElem? (i := 5) rfl)) (mB23 _ (List.mem_of_getElem? (i := 12) rfl))
theorem hdV_X11_pumpOf : yX11_pumpOf.cls = RX11 ∧ yX11_pumpOf.cls ≠ "java/lang/invoke/MethodHandle" ∧ yX11_pumpOf.cls ≠ "java/lang/invoke/VarHandle" ∧ (parseMethodDescriptor yX11_pumpOf.desc).map (fun d => d.parameters.length) = some 2 := by decide +kernel
theorem gcS_X11_drawn {T0 : Cond} {own : String} {i : Nat} (h : Cond.methodLink own i yX11_drawn ∈ wsL_law) : GoodIn (T0 :: wsL_law) (va_wsS own i yX11_drawn wz_X11_drawn) := gS h (mB23 _ (List.mem_of_getElem? (i := 14) rfl)) (mB1 _ (List.mem_of_getElem? (i := 5) rfl)) (mB23 _ (List.mem_of_getElem? (i := 15) rfl))
theorem hdS_X11_drawn : yX11_drawn.cls ≠ "java/lang/invoke/MethodHandle" ∧ yX11_drawn.cls ≠ "java/lang/invoke/VarHandle" ∧ (parseMethodDescriptor yX11_drawn.desc).map (fun d => d.parameters.length) = some 1 := by decide +kernel
def wz_X11_drawPrice : List Cond := .code yX11_drawPrice cX11_drawPrice 4 (some .int) :: wsL_law
abbrev r_X11_drawPrice : Room := { frames := 1, cells := 0, slots := 0, locals := 22 }
set_option maxHeartbeats 4000000 in
set_option maxRecDepth 100000 in
theorem c_X11_drawPrice (l : Launch) (D : va_G) (K : Nat → ClassId) (F : Nat) (hMo : Nat → Nat) (sz : Nat) (sMo : MS) (p1 : Int32) (res : Int32 × MS) (hf : f_X11_drawPrice F p1 sMo = some res) : Met l yX11_drawPrice wz_X11_drawPrice r_X11_drawPrice (va_Pc [.ref (hMo 99), .int p1] (PW D K (wMo K hMo sMo) sz)) (va_Qi (fun r u => r = res.1 ∧ u = res.2) (fun u t => BW D K (va_A (wMo K hMo sMo) sz) (wMo K hMo u) t) (va_A (wMo K hMo sMo) sz)) 0 0 (va_A (wMo K hMo sMo) sz) := by
  refine Met.ofW (cc := cX11_drawPrice) (maxL := 4) (ret := (some .int)) (by decide) rfl ?_
  intro p e s m args below meth c s₁ B hml hv
  obtain ⟨hargs, hsz, hP, hK, hD0⟩ := hv
  have hx := B.exec
  have hb := B.bytes
  have hr := B.returns
  have hts := atoms_spec (ws := wz_X11_drawPrice) B.pre
  have htl : ∀ w ∈ wsL_law, w.before args s = true := fun w h => hts w (List.mem_cons_of_mem _ h)
  have hown : s.vm.findClass RX11 = some m.cls := findClass_of_methodNamed B.named
  have hlocks := B.notSynchronized
  subst hsz
  have hD := hD0.self (sz := s.heap.size)
  generalize hAe : va_A (wMo K hMo sMo) s.heap.size = A at hD ⊢
  have hA : ∀ q : Nat, s.heap.size ≤ q → A q := fun q h => by rw [← hAe]; exact Or.inr h
  have hS : va_S A s.heap s.heap [] := va_S.rf
  have iX11 : ∀ w ∈ wsX110, w ∈ wz_X11_drawPrice := fun w h => List.mem_cons_of_mem _ (inlX11 w h)
  suffices hgo : ∀ Q : State → Prop, Q = MQ below (va_Qi (fun r u => r = res.1 ∧ u = res.2) (fun u t => BW D K A (wMo K hMo u) t) A) args s 0 0 A → W p l e (headSpec wz_X11_drawPrice r_X11_drawPrice).room s m args below meth c s.heap [] 0 0 Q (entryFrame m args 4) from hgo _ rfl
  intro Q hQ
  have w73 : ∀ (x2 : Int32), ∀ (x3 : Int32), ∀ (sMo : MS), ∀ (H : Heap) (locs : List Loc) (ls : Array Slot), f_X11_drawPrice_73 F p1 x2 x3 sMo = some res → va_P D vwCl (wMo K hMo sMo) H → va_D A (wMo K hMo sMo) → va_S A s.heap H locs → lv_has ls 4 [(0, .ref (hMo 99)), (1, .int p1), (2, .int x2), (3, .int x3)] → W p l e (headSpec wz_X11_drawPrice r_X11_drawPrice).room s m args below meth c H locs 0 0 Q (F0 m 73 ls []) := by
    intro x2 x3 sMo H locs ls hf hP hD hS hl
    unfold f_X11_drawPrice_73 at hf
    refine lv_iload_n hx hb dX11_drawPrice_73 rfl (lv_at hl 2 rfl) ?_
    refine lv_if_eq (tgt := 81) hx hb dX11_drawPrice_74 (by decide) (fun c13 => ?_) (fun c13 => ?_)
    · have hf := it_t hf c13
      refine lv_aload_n hx hb dX11_drawPrice_81 rfl (lv_at hl 0 rfl) ?_
      refine lv_iload_n hx hb dX11_drawPrice_82 rfl (lv_at hl 1 rfl) ?_
      refine lv_iload_n hx hb dX11_drawPrice_83 rfl (lv_at hl 3 rfl) ?_
      obtain ⟨o14, go14, hf⟩ := bd_s hf
      refine ro_Vi (As := [.int p1, .int x3]) (rest := []) ⟨hx, hb, hml, hown, hts⟩ (c_X11_pumpOf l D K F hMo sMo p1 x3 o14 go14) (cwV 2 hts (gcV_X11_pumpOf (mB23 _ (List.mem_of_getElem? (i := 9) rfl))) rfl rfl rfl hdV_X11_pumpOf ⟨Nat.le_of_ble_eq_true rfl, Nat.le_of_ble_eq_true rfl⟩) hK hP hS hP (va_recv hK hP (ci := 10) (q0 := 0) rfl o_Mo) rfl hl.1 rfl (Nat.le_of_ble_eq_true rfl) dX11_drawPrice_84 ⟨Nat.zero_le _, Nat.zero_le _⟩ (fun H locs hP hS => ?_)
      have e9 := Option.some.inj hf
      rw [hQ]
      exact W.iret (v := o14) hx hb hr (fun t ht hW => ⟨⟨o14, sMo, rfl, ⟨pr1 e9, pr2 e9⟩, ⟨by rw [ht]; exact hP, va_K.moved hW.alike hK, hD⟩⟩, hS.F ht⟩) hS.2.2 dX11_drawPrice_87
    · have hf := it_f hf c13
      refine lv_iconst (v := (0 : Int32)) hx hb dX11_drawPrice_77 (by decide) ?_
      refine lv_goto (tgt := 87) hx hb dX11_drawPrice_78 (by decide) ?_
      have e9 := Option.some.inj hf
      rw [hQ]
      exact W.iret (v := (0 : Int32)) hx hb hr (fun t ht hW => ⟨⟨(0 : Int32), sMo, rfl, ⟨pr1 e9, pr2 e9⟩, ⟨by rw [ht]; exact hP, va_K.moved hW.alike hK, hD⟩⟩, hS.F ht⟩) hS.2.2 dX11_drawPrice_87
  have w43 : ∀ (y0 : Int32), ∀ (sMo : MS), ∀ (H : Heap) (locs : List Loc) (ls : Array Slot), f_X11_drawPrice_43 F p1 y0 sMo = some res → va_P D vwCl (wMo K hMo sMo) H → va_D A (wMo K hMo sMo) → va_S A s.heap H locs → lv_has ls 4 [(0, .ref (hMo 99)), (1, .int p1)] → W p l e (headSpec wz_X11_drawPrice r_X11_drawPrice).room s m args below meth c H locs 0 0 Q (F0 m 43 ls [.int y0]) := by
    intro y0 sMo H locs ls hf hP hD hS hl
    unfold f_X11_drawPrice_43 at hf
    refine lv_istore_n (lv' := [(2, .int y0), (0, .ref (hMo 99)), (1, .int p1)]) hx hb dX11_drawPrice_43 rfl hl (by decide) rfl (fun ls hl => ?_)
    refine lv_iconst (v := (0 : Int32)) hx hb dX11_drawPrice_44 (by decide) ?_
    refine lv_istore_n (lv' := [(3, .int (0 : Int32)), (2, .int y0), (0, .ref (hMo 99)), (1, .int p1)]) hx hb dX11_drawPrice_45 rfl hl (by decide) rfl (fun ls hl => ?_)
    refine lv_aload_n hx hb dX11_drawPrice_46 rfl (lv_at hl 2 rfl) ?_
    refine lv_iload_n hx hb dX11_drawPrice_47 rfl (lv_at hl 3 rfl) ?_
    refine lv_iconst (v := (1 : Int32)) hx hb dX11_drawPrice_48 (by decide) ?_
    obtain ⟨o8, go8, hf⟩ := bd_s hf
    refine ro_Vi (As := [.int p1, .int (1 : Int32)]) (rest := []) ⟨hx, hb, hml, hown, hts⟩ (c_X11_pumpOf l D K F hMo sMo p1 (1 : Int32) o8 go8) (cwV 2 hts (gcV_X11_pumpOf (mB23 _ (List.mem_of_getElem? (i := 9) rfl))) rfl rfl rfl hdV_X11_pumpOf ⟨Nat.le_of_ble_eq_true rfl, Nat.le_of_ble_eq_true rfl⟩) hK hP hS hP (va_recv hK hP (ci := 10) (q0 := 0) rfl o_Mo) rfl hl.1 rfl (Nat.le_of_ble_eq_true rfl) dX11_drawPrice_49 ⟨Nat.zero_le _, Nat.zero_le _⟩ (fun H locs hP hS => ?_)
    refine lv_if_le (tgt := 73) hx hb dX11_drawPrice_52 (by decide) (fun c9 => ?_) (fun c9 => ?_)
    · have hf := it_t hf c9
      exact w73 y0 (0 : Int32) sMo H locs ls hf hP hD hS (lv_sub hl [2, 3, 1, 0] rfl)
    · have hf := it_f hf c9
      refine lv_aload_n hx hb dX11_drawPrice_55 rfl (lv_at hl 2 rfl) ?_
      refine lv_aload_n hx hb dX11_drawPrice_56 rfl (lv_at hl 2 rfl) ?_
      refine va_get (D := D) (ci := 10) (v := .int (sMo.1 40)) (C := RX11) (T := TX11) (N := 41) hx hb hts iX11 hown hK hP 0 o_Mo rfl 40 (by decide) (htl _ (mB23 _ (List.mem_of_getElem? (i := 4) rfl))) (fun _ h9 => h9) rfl dX11_drawPrice_57 ?_
      obtain ⟨o10, go10, hf⟩ := bd_s hf
      refine ro_Si (As := [.int (sMo.1 40)]) (rest := [.ref (hMo 99)]) ⟨hx, hb, hml, hown, hts⟩ (c_X11_drawn l D K F (sMo.1 40) o10 go10) (va_cwS 1 hts (gcS_X11_drawn (mB23 _ (List.mem_of_getElem? (i := 13) rfl))) rfl rfl rfl hdS_X11_drawn ⟨Nat.le_of_ble_eq_true rfl, Nat.le_of_ble_eq_true rfl⟩) hK hP hS va_Pnil rfl hl.1 rfl (Nat.le_of_ble_eq_true rfl) dX11_drawPrice_60 ⟨Nat.zero_le _, Nat.zero_le _⟩ (fun H locs hP hS => ?_)
      refine va_put (D := D) (ci := 10) (v := .int o10) (ty := .int) (C := RX11) (T := TX11) (N := 41) hx hb hts iX11 tyX11 tyX11_ok nmX11 hown hK hP hD hS 0 o_Mo rfl 40 (by decide) (htl _ (mB23 _ (List.mem_of_getElem? (i := 4) rfl))) (fun _ h9 => h9) rfl (by decide +kernel) rfl rfl (Nat.le_of_ble_eq_true rfl) dX11_drawPrice_63 (fun H locs hP hD hS => ?_)
      have hP := cvP si_Mo_40 hP
      have hD := cvD si_Mo_40 hD
      obtain ⟨s11, es11⟩ : ∃ z, z = sI sMo 40 o10 := ⟨_, rfl⟩
      have hP : va_P D vwCl (wMo K hMo s11) H := by rw [es11]; exact hP
      have hD : va_D A (wMo K hMo s11) := by rw [es11]; exact hD
      have hf := lz_s hf s11 es11
      refine lv_aload_n hx hb dX11_drawPrice_66 rfl (lv_at hl 2 rfl) ?_
      refine va_get (D := D) (ci := 10) (v := .int (s11.1 40)) (C := RX11) (T := TX11) (N := 41) hx hb hts iX11 hown hK hP 0 o_Mo rfl 40 (by decide) (htl _ (mB23 _ (List.mem_of_getElem? (i := 4) rfl))) (fun _ h9 => h9) rfl dX11_drawPrice_67 ?_
      refine lv_iconst (v := (2 : Int32)) hx hb dX11_drawPrice_70 (by decide) ?_
      refine lv_irem hx hb dX11_drawPrice_71 (by decide) ?_
      refine lv_topi (fun v12 ev12 => ?_)
      have hf := lz_s hf v12 ev12
      refine lv_istore_n (lv' := [(3, .int v12), (2, .int y0), (0, .ref (hMo 99)), (1, .int p1)]) hx hb dX11_drawPrice_72 rfl hl (by decide) rfl (fun ls hl => ?_)
      exact w73 y0 v12 s11 H locs ls hf hP hD hS (lv_sub hl [2, 3, 1, 0] rfl)
  have hen : entryFrame m args 4 = entryFrame m (([.ref (hMo 99), .int p1] : List Value).toArray) 4 := by rw [hargs]
  have hl := lv_entry ([.ref (hMo 99), .int p1]) (n := 4) (Nat.le_of_ble_eq_true rfl)
  rw [hen, lg_entry_eq]
  generalize (lg_sl ([.ref (hMo 99), .int p1]) ++ List.replicate (4 - (lg_sl ([.ref (hMo 99), .int p1])).length) Slot.unset).toArray = ls at hl ⊢
  have hl : lv_has ls 4 [(0, .ref (hMo 99)), (1, .int p1)] := hl
  unfold f_X11_drawPrice at hf
  obtain ⟨H, hHe⟩ : ∃ z, z = s.heap := ⟨_, rfl⟩
  obtain ⟨locs, hLe⟩ : ∃ z : List Loc, z = [] := ⟨_, rfl⟩
  rw [← hLe]
  have hS : va_S A s.heap H locs := by rw [hHe, hLe]; exact hS
  have hP : va_P D vwCl (wMo K hMo sMo) H := by rw [hHe]; exact hP
  have hgo : W p l e (headSpec wz_X11_drawPrice r_X11_drawPrice).room s m args below meth c H locs 0 0 Q (F0 m 0 ls []) := by
    refine lv_aload_n hx hb dX11_drawPrice_0 rfl (lv_at hl 0 rfl) ?_
    refine lv_iload_n hx hb dX11_drawPrice_1 rfl (lv_at hl 1 rfl) ?_
    refine lv_iconst (v := (0 : Int32)) hx hb dX11_drawPrice_2 (by decide) ?_
    obtain ⟨o1, go1, hf⟩ := bd_s hf
    refine ro_Vi (As := [.int p1, .int (0 : Int32)]) (rest := []) ⟨hx, hb, hml, hown, hts⟩ (c_X11_pumpOf l D K F hMo sMo p1 (0 : Int32) o1 go1) (cwV 2 hts (gcV_X11_pumpOf (mB23 _ (List.mem_of_getElem? (i := 9) rfl))) rfl rfl rfl hdV_X11_pumpOf ⟨Nat.le_of_ble_eq_true rfl, Nat.le_of_ble_eq_true rfl⟩) hK hP hS hP (va_recv hK hP (ci := 10) (q0 := 0) rfl o_Mo) rfl hl.1 rfl (Nat.le_of_ble_eq_true rfl) dX11_drawPrice_3 ⟨Nat.zero_le _, Nat.zero_le _⟩ (fun H locs hP hS => ?_)
    refine lv_if_ne (tgt := 11) hx hb dX11_drawPrice_6 (by decide) (fun c2 => ?_) (fun c2 => ?_)
    · have hf := it_f hf c2
      refine lv_aload_n hx hb dX11_drawPrice_11 rfl (lv_at hl 0 rfl) ?_
      refine lv_aload_n hx hb dX11_drawPrice_12 rfl (lv_at hl 0 rfl) ?_
      refine va_get (D := D) (ci := 10) (v := .int (sMo.1 40)) (C := RX11) (T := TX11) (N := 41) hx hb hts iX11 hown hK hP 0 o_Mo rfl 40 (by decide) (htl _ (mB23 _ (List.mem_of_getElem? (i := 4) rfl))) (fun _ h9 => h9) rfl dX11_drawPrice_13 ?_
      obtain ⟨o3, go3, hf⟩ := bd_s hf
      refine ro_Si (As := [.int (sMo.1 40)]) (rest := [.ref (hMo 99)]) ⟨hx, hb, hml, hown, hts⟩ (c_X11_drawn l D K F (sMo.1 40) o3 go3) (va_cwS 1 hts (gcS_X11_drawn (mB23 _ (List.mem_of_getElem? (i := 13) rfl))) rfl rfl rfl hdS_X11_drawn ⟨Nat.le_of_ble_eq_true rfl, Nat.le_of_ble_eq_true rfl⟩) hK hP hS va_Pnil rfl hl.1 rfl (Nat.le_of_ble_eq_true rfl) dX11_drawPrice_16 ⟨Nat.zero_le _, Nat.zero_le _⟩ (fun H locs hP hS => ?_)
      refine va_put (D := D) (ci := 10) (v := .int o3) (ty := .int) (C := RX11) (T := TX11) (N := 41) hx hb hts iX11 tyX11 tyX11_ok nmX11 hown hK hP hD hS 0 o_Mo rfl 40 (by decide) (htl _ (mB23 _ (List.mem_of_getElem? (i := 4) rfl))) (fun _ h9 => h9) rfl (by decide +kernel) rfl rfl (Nat.le_of_ble_eq_true rfl) dX11_drawPrice_19 (fun H locs hP hD hS => ?_)
      have hP := cvP si_Mo_40 hP
      have hD := cvD si_Mo_40 hD
      obtain ⟨s4, es4⟩ : ∃ z, z = sI sMo 40 o3 := ⟨_, rfl⟩
      have hP : va_P D vwCl (wMo K hMo s4) H := by rw [es4]; exact hP
      have hD : va_D A (wMo K hMo s4) := by rw [es4]; exact hD
      have hf := lz_s hf s4 es4
      refine lv_aload_n hx hb dX11_drawPrice_22 rfl (lv_at hl 0 rfl) ?_
      refine va_get (D := D) (ci := 10) (v := .int (s4.1 40)) (C := RX11) (T := TX11) (N := 41) hx hb hts iX11 hown hK hP 0 o_Mo rfl 40 (by decide) (htl _ (mB23 _ (List.mem_of_getElem? (i := 4) rfl))) (fun _ h9 => h9) rfl dX11_drawPrice_23 ?_
      refine lv_bipush (v := (10 : Int32)) hx hb dX11_drawPrice_26 (by decide) ?_
      refine lv_irem hx hb dX11_drawPrice_28 (by decide) ?_
      refine lv_topi (fun v5 ev5 => ?_)
      have hf := lz_s hf v5 ev5
      refine lv_aload_n hx hb dX11_drawPrice_29 rfl (lv_at hl 0 rfl) ?_
      refine lv_iload_n hx hb dX11_drawPrice_30 rfl (lv_at hl 1 rfl) ?_
      refine lv_iconst (v := (2 : Int32)) hx hb dX11_drawPrice_31 (by decide) ?_
      obtain ⟨o6, go6, hf⟩ := bd_s hf
      refine ro_Vi (As := [.int p1, .int (2 : Int32)]) (rest := [.int v5]) ⟨hx, hb, hml, hown, hts⟩ (c_X11_pumpOf l D K F hMo s4 p1 (2 : Int32) o6 go6) (cwV 2 hts (gcV_X11_pumpOf (mB23 _ (List.mem_of_getElem? (i := 9) rfl))) rfl rfl rfl hdV_X11_pumpOf ⟨Nat.le_of_ble_eq_true rfl, Nat.le_of_ble_eq_true rfl⟩) hK hP hS hP (va_recv hK hP (ci := 10) (q0 := 0) rfl o_Mo) rfl hl.1 rfl (Nat.le_of_ble_eq_true rfl) dX11_drawPrice_32 ⟨Nat.zero_le _, Nat.zero_le _⟩ (fun H locs hP hS => ?_)
      refine lv_icmp_ge (tgt := 42) hx hb dX11_drawPrice_35 (by decide) (fun c7 => ?_) (fun c7 => ?_)
      · have hf := it_t hf c7
        refine lv_iconst (v := (0 : Int32)) hx hb dX11_drawPrice_42 (by decide) ?_
        exact w43 (0 : Int32) s4 H locs ls hf hP hD hS (lv_sub hl [0, 1] rfl)
      · have hf := it_f hf c7
        refine lv_iconst (v := (1 : Int32)) hx hb dX11_drawPrice_38 (by decide) ?_
        refine lv_goto (tgt := 43) hx hb dX11_drawPrice_39 (by decide) ?_
        exact w43 (1 : Int32) s4 H locs ls hf hP hD hS (lv_sub hl [0, 1] rfl)
    · have hf := it_t hf c2
      refine lv_iconst (v := (0 : Int32)) hx hb dX11_drawPrice_9 (by decide) ?_
      have e9 := Option.some.inj hf
      rw [hQ]
      exact W.iret (v := (0 : Int32)) hx hb hr (fun t ht hW => ⟨⟨(0 : Int32), sMo, rfl, ⟨pr1 e9, pr2 e9⟩, ⟨by rw [ht]; exact hP, va_K.moved hW.alike hK, hD⟩⟩, hS.F ht⟩) hS.2.2 dX11_drawPrice_10
  rw [hHe] at hgo
  exact hgo

theorem gcV_X11_drawPrice {T0 : Cond} {own : String} {i : Nat} (h : Cond.methodLink own i yX11_drawPrice ∈ wsL_law) : GoodIn (T0 :: wsL_law) (wsV own i RX11 yX11_drawPrice wz_X11_drawPrice) := gV h (mB23 _ (List.mem_of_getElem? (i := 6) rfl)) (mB23 _ (List.mem_of_getElem? (i := 7) rfl)) (mB1 _ (List.mem_of_getElem? (i := 5) rfl)) (mB23 _ (List.mem_of_getElem? (i := 8) rfl))
theorem hdV_X11_drawPrice : yX11_drawPrice.cls = RX11 ∧ yX11_drawPrice.cls ≠ "java/lang/invoke/MethodHandle" ∧ yX11_drawPrice.cls ≠ "java/lang/invoke/VarHandle" ∧ (parseMethodDescriptor yX11_drawPrice.desc).map (fun d => d.parameters.length) = some 1 := by decide +kernel
def wz_X11_comes : List Cond := .code yX11_comes cX11_comes 2 none :: wsL_law
abbrev r_X11_comes : Room := { frames := 2, cells := 0, slots := 0, locals := 45 }
set_option maxHeartbeats 4000000 in
set_option maxRecDepth 100000 in
theorem c_X11_comes (l : Launch) (D : va_G) (K : Nat → ClassId) (F : Nat) (hMo : Nat → Nat) (sz : Nat) (sMo : MS) (p1 : Int32) (res : MS) (hf : f_X11_comes F p1 sMo = some res) : Met l yX11_comes wz_X11_comes r_X11_comes (va_Pc [.ref (hMo 99), .int p1] (PW D K (wMo K hMo sMo) sz)) (va_Qv (fun u => u = res) (fun u t => BW D K (va_A (wMo K hMo sMo) sz) (wMo K hMo u) t) (va_A (wMo K hMo sMo) sz)) 0 0 (va_A (wMo K hMo sMo) sz) := by
  refine Met.ofW (cc := cX11_comes) (maxL := 2) (ret := none) (by decide) rfl ?_
  intro p e s m args below meth c s₁ B hml hv
  obtain ⟨hargs, hsz, hP, hK, hD0⟩ := hv
  have hx := B.exec
  have hb := B.bytes
  have hr := B.returns
  have hts := atoms_spec (ws := wz_X11_comes) B.pre
  have htl : ∀ w ∈ wsL_law, w.before args s = true := fun w h => hts w (List.mem_cons_of_mem _ h)
  have hown : s.vm.findClass RX11 = some m.cls := findClass_of_methodNamed B.named
  have hlocks := B.notSynchronized
  subst hsz
  have hD := hD0.self (sz := s.heap.size)
  generalize hAe : va_A (wMo K hMo sMo) s.heap.size = A at hD ⊢
  have hA : ∀ q : Nat, s.heap.size ≤ q → A q := fun q h => by rw [← hAe]; exact Or.inr h
  have hS : va_S A s.heap s.heap [] := va_S.rf
  have iX11 : ∀ w ∈ wsX110, w ∈ wz_X11_comes := fun w h => List.mem_cons_of_mem _ (inlX11 w h)
  suffices hgo : ∀ Q : State → Prop, Q = MQ below (va_Qv (fun u => u = res) (fun u t => BW D K A (wMo K hMo u) t) A) args s 0 0 A → W p l e (headSpec wz_X11_comes r_X11_comes).room s m args below meth c s.heap [] 0 0 Q (entryFrame m args 2) from hgo _ rfl
  intro Q hQ
  have hen : entryFrame m args 2 = entryFrame m (([.ref (hMo 99), .int p1] : List Value).toArray) 2 := by rw [hargs]
  have hl := lv_entry ([.ref (hMo 99), .int p1]) (n := 2) (Nat.le_of_ble_eq_true rfl)
  rw [hen, lg_entry_eq]
  generalize (lg_sl ([.ref (hMo 99), .int p1]) ++ List.replicate (2 - (lg_sl ([.ref (hMo 99), .int p1])).length) Slot.unset).toArray = ls at hl ⊢
  have hl : lv_has ls 2 [(0, .ref (hMo 99)), (1, .int p1)] := hl
  unfold f_X11_comes at hf
  obtain ⟨H, hHe⟩ : ∃ z, z = s.heap := ⟨_, rfl⟩
  obtain ⟨locs, hLe⟩ : ∃ z : List Loc, z = [] := ⟨_, rfl⟩
  rw [← hLe]
  have hS : va_S A s.heap H locs := by rw [hHe, hLe]; exact hS
  have hP : va_P D vwCl (wMo K hMo sMo) H := by rw [hHe]; exact hP
  have hgo : W p l e (headSpec wz_X11_comes r_X11_comes).room s m args below meth c H locs 0 0 Q (F0 m 0 ls []) := by
    refine lv_aload_n hx hb dX11_comes_0 rfl (lv_at hl 0 rfl) ?_
    refine lv_aload_n hx hb dX11_comes_1 rfl (lv_at hl 0 rfl) ?_
    refine va_get (D := D) (ci := 10) (v := .ref (hMo 18)) (C := RX11) (T := TX11) (N := 41) hx hb hts iX11 hown hK hP 0 o_Mo rfl 18 (by decide) (htl _ (mB6 _ (List.mem_of_getElem? (i := 6) rfl))) (fun _ h9 => h9) rfl dX11_comes_2 ?_
    refine lv_bipush (v := (6 : Int32)) hx hb dX11_comes_5 (by decide) ?_
    obtain ⟨g1, hf⟩ := gd_s hf
    refine va_iald hx hb hK hP 6 0 (f := sMo.2.2.1 18) a_Mo_18 rfl (vpb_in g1) dX11_comes_7 ?_
    refine lv_topi (fun v2 ev2 => ?_)
    have hf := lz_s hf v2 ev2
    refine va_put (D := D) (ci := 10) (v := .int v2) (ty := .int) (C := RX11) (T := TX11) (N := 41) hx hb hts iX11 tyX11 tyX11_ok nmX11 hown hK hP hD hS 0 o_Mo rfl 40 (by decide) (htl _ (mB23 _ (List.mem_of_getElem? (i := 4) rfl))) (fun _ h9 => h9) rfl (by decide +kernel) rfl rfl (Nat.le_of_ble_eq_true rfl) dX11_comes_8 (fun H locs hP hD hS => ?_)
    have hP := cvP si_Mo_40 hP
    have hD := cvD si_Mo_40 hD
    obtain ⟨s3, es3⟩ : ∃ z, z = sI sMo 40 v2 := ⟨_, rfl⟩
    have hP : va_P D vwCl (wMo K hMo s3) H := by rw [es3]; exact hP
    have hD : va_D A (wMo K hMo s3) := by rw [es3]; exact hD
    have hf := lz_s hf s3 es3
    refine lv_aload_n hx hb dX11_comes_11 rfl (lv_at hl 0 rfl) ?_
    refine va_get (D := D) (ci := 10) (v := .ref (hMo 18)) (C := RX11) (T := TX11) (N := 41) hx hb hts iX11 hown hK hP 0 o_Mo rfl 18 (by decide) (htl _ (mB6 _ (List.mem_of_getElem? (i := 6) rfl))) (fun _ h9 => h9) rfl dX11_comes_12 ?_
    refine lv_iconst (v := (0 : Int32)) hx hb dX11_comes_15 (by decide) ?_
    refine lv_iload_n hx hb dX11_comes_16 rfl (lv_at hl 1 rfl) ?_
    obtain ⟨g4, hf⟩ := gd_s hf
    refine va_iast hx hb hK hP hD hS 6 0 (f := s3.2.2.1 18) a_Mo_18 rfl (vpb_in g4) dX11_comes_17 (fun H locs hP hD hS => ?_)
    have hP := cvP sa_Mo_18 hP
    have hD := cvD sa_Mo_18 hD
    obtain ⟨s5, es5⟩ : ∃ z, z = sA s3 18 ((0 : Int32).toNatClampNeg) p1 := ⟨_, rfl⟩
    have hP : va_P D vwCl (wMo K hMo s5) H := by rw [es5]; exact hP
    have hD : va_D A (wMo K hMo s5) := by rw [es5]; exact hD
    have hf := lz_s hf s5 es5
    refine lv_aload_n hx hb dX11_comes_18 rfl (lv_at hl 0 rfl) ?_
    refine va_get (D := D) (ci := 10) (v := .ref (hMo 18)) (C := RX11) (T := TX11) (N := 41) hx hb hts iX11 hown hK hP 0 o_Mo rfl 18 (by decide) (htl _ (mB6 _ (List.mem_of_getElem? (i := 6) rfl))) (fun _ h9 => h9) rfl dX11_comes_19 ?_
    refine lv_iconst (v := (4 : Int32)) hx hb dX11_comes_22 (by decide) ?_
    refine lv_aload_n hx hb dX11_comes_23 rfl (lv_at hl 0 rfl) ?_
    refine lv_iload_n hx hb dX11_comes_24 rfl (lv_at hl 1 rfl) ?_
    obtain ⟨o6, go6, hf⟩ := bd_s hf
    refine rs_Vi (As := [.int p1]) (rest := [.int (4 : Int32), .ref (hMo 18)]) ⟨hx, hb, hml, hown, hts⟩ (c_X11_drawPrice l D K F hMo H.size s5 p1 o6 go6) (cwV 1 hts (gcV_X11_drawPrice (mB23 _ (List.mem_of_getElem? (i := 5) rfl))) rfl rfl rfl hdV_X11_drawPrice ⟨Nat.le_of_ble_eq_true rfl, Nat.le_of_ble_eq_true rfl⟩) hK hP hD hS hA (va_recv hK hP (ci := 10) (q0 := 0) rfl o_Mo) rfl hl.1 rfl (Nat.le_of_ble_eq_true rfl) dX11_comes_25 ⟨Nat.zero_le _, Nat.zero_le _⟩ (fun H locs hP hD hS => ?_)
    have hP : va_P D vwCl (wMo K hMo o6.2) H := hP
    have hD : va_D A (wMo K hMo o6.2) := hD
    obtain ⟨g7, hf⟩ := gd_s hf
    refine va_iast hx hb hK hP hD hS 6 0 (f := o6.2.2.2.1 18) a_Mo_18 rfl (vpb_in g7) dX11_comes_28 (fun H locs hP hD hS => ?_)
    have hP := cvP sa_Mo_18 hP
    have hD := cvD sa_Mo_18 hD
    obtain ⟨s8, es8⟩ : ∃ z, z = sA o6.2 18 ((4 : Int32).toNatClampNeg) o6.1 := ⟨_, rfl⟩
    have hP : va_P D vwCl (wMo K hMo s8) H := by rw [es8]; exact hP
    have hD : va_D A (wMo K hMo s8) := by rw [es8]; exact hD
    have hf := lz_s hf s8 es8
    refine lv_aload_n hx hb dX11_comes_29 rfl (lv_at hl 0 rfl) ?_
    refine va_get (D := D) (ci := 10) (v := .ref (hMo 18)) (C := RX11) (T := TX11) (N := 41) hx hb hts iX11 hown hK hP 0 o_Mo rfl 18 (by decide) (htl _ (mB6 _ (List.mem_of_getElem? (i := 6) rfl))) (fun _ h9 => h9) rfl dX11_comes_30 ?_
    refine lv_iconst (v := (5 : Int32)) hx hb dX11_comes_33 (by decide) ?_
    refine lv_iconst (v := (0 : Int32)) hx hb dX11_comes_34 (by decide) ?_
    obtain ⟨g9, hf⟩ := gd_s hf
    refine va_iast hx hb hK hP hD hS 6 0 (f := s8.2.2.1 18) a_Mo_18 rfl (vpb_in g9) dX11_comes_35 (fun H locs hP hD hS => ?_)
    have hP := cvP sa_Mo_18 hP
    have hD := cvD sa_Mo_18 hD
    obtain ⟨s10, es10⟩ : ∃ z, z = sA s8 18 ((5 : Int32).toNatClampNeg) (0 : Int32) := ⟨_, rfl⟩
    have hP : va_P D vwCl (wMo K hMo s10) H := by rw [es10]; exact hP
    have hD : va_D A (wMo K hMo s10) := by rw [es10]; exact hD
    have hf := lz_s hf s10 es10
    refine lv_aload_n hx hb dX11_comes_36 rfl (lv_at hl 0 rfl) ?_
    refine va_get (D := D) (ci := 10) (v := .ref (hMo 18)) (C := RX11) (T := TX11) (N := 41) hx hb hts iX11 hown hK hP 0 o_Mo rfl 18 (by decide) (htl _ (mB6 _ (List.mem_of_getElem? (i := 6) rfl))) (fun _ h9 => h9) rfl dX11_comes_37 ?_
    refine lv_bipush (v := (6 : Int32)) hx hb dX11_comes_40 (by decide) ?_
    refine lv_aload_n hx hb dX11_comes_42 rfl (lv_at hl 0 rfl) ?_
    refine va_get (D := D) (ci := 10) (v := .int (s10.1 40)) (C := RX11) (T := TX11) (N := 41) hx hb hts iX11 hown hK hP 0 o_Mo rfl 40 (by decide) (htl _ (mB23 _ (List.mem_of_getElem? (i := 4) rfl))) (fun _ h9 => h9) rfl dX11_comes_43 ?_
    obtain ⟨g11, hf⟩ := gd_s hf
    refine va_iast hx hb hK hP hD hS 6 0 (f := s10.2.2.1 18) a_Mo_18 rfl (vpb_in g11) dX11_comes_46 (fun H locs hP hD hS => ?_)
    have hP := cvP sa_Mo_18 hP
    have hD := cvD sa_Mo_18 hD
    obtain ⟨s12, es12⟩ : ∃ z, z = sA s10 18 ((6 : Int32).toNatClampNeg) (s10.1 40) := ⟨_, rfl⟩
    have hP : va_P D vwCl (wMo K hMo s12) H := by rw [es12]; exact hP
    have hD : va_D A (wMo K hMo s12) := by rw [es12]; exact hD
    have hf := lz_s hf s12 es12
    have e9 := Option.some.inj hf
    rw [hQ]
    exact W.vret hx hb hr (fun t ht hW => ⟨⟨s12, rfl, e9, ⟨by rw [ht]; exact hP, va_K.moved hW.alike hK, hD⟩⟩, hS.F ht⟩) hS.2.2 dX11_comes_47
  rw [hHe] at hgo
  exact hgo

theorem gcV_X11_good {T0 : Cond} {own : String} {i : Nat} (h : Cond.methodLink own i yX11_good ∈ wsL_law) : GoodIn (T0 :: wsL_law) (wsV own i RX11 yX11_good wz_X11_good) := gV h (mB18 _ (List.mem_of_getElem? (i := 8) rfl)) (mB18 _ (List.mem_of_getElem? (i := 9) rfl)) (mB1 _ (List.mem_of_getElem? (i := 5) rfl)) (mB18 _ (List.mem_of_getElem? (i := 10) rfl))
theorem hdV_X11_good : yX11_good.cls = RX11 ∧ yX11_good.cls ≠ "java/lang/invoke/MethodHandle" ∧ yX11_good.cls ≠ "java/lang/invoke/VarHandle" ∧ (parseMethodDescriptor yX11_good.desc).map (fun d => d.parameters.length) = some 0 := by decide +kernel
theorem gcV_X11_no {T0 : Cond} {own : String} {i : Nat} (h : Cond.methodLink own i yX11_no ∈ wsL_law) : GoodIn (T0 :: wsL_law) (wsV own i RX11 yX11_no wz_X11_no) := gV h (mB18 _ (List.mem_of_getElem? (i := 16) rfl)) (mB18 _ (List.mem_of_getElem? (i := 17) rfl)) (mB1 _ (List.mem_of_getElem? (i := 5) rfl)) (mB18 _ (List.mem_of_getElem? (i := 18) rfl))
theorem hdV_X11_no : yX11_no.cls = RX11 ∧ yX11_no.cls ≠ "java/lang/invoke/MethodHandle" ∧ yX11_no.cls ≠ "java/lang/invoke/VarHandle" ∧ (parseMethodDescriptor yX11_no.desc).map (fun d => d.parameters.length) = some 1 := by decide +kernel
theorem gcV_X11_readLine {T0 : Cond} {own : String} {i : Nat} (h : Cond.methodLink own i yX11_readLine ∈ wsL_law) : GoodIn (T0 :: wsL_law) (wsV own i RX11 yX11_readLine wz_X11_readLine) := gV h (mB19 _ (List.mem_of_getElem? (i := 12) rfl)) (mB19 _ (List.mem_of_getElem? (i := 13) rfl)) (mB1 _ (List.mem_of_getElem? (i := 5) rfl)) (mB19 _ (List.mem_of_getElem? (i := 14) rfl))
theorem hdV_X11_readLine : yX11_readLine.cls = RX11 ∧ yX11_readLine.cls ≠ "java/lang/invoke/MethodHandle" ∧ yX11_readLine.cls ≠ "java/lang/invoke/VarHandle" ∧ (parseMethodDescriptor yX11_readLine.desc).map (fun d => d.parameters.length) = some 0 := by decide +kernel
theorem gcS_X11_copy {T0 : Cond} {own : String} {i : Nat} (h : Cond.methodLink own i yX11_copy ∈ wsL_law) : GoodIn (T0 :: wsL_law) (va_wsS own i yX11_copy wz_X11_copy) := gS h (mB22 _ (List.mem_of_getElem? (i := 22) rfl)) (mB1 _ (List.mem_of_getElem? (i := 5) rfl)) (mB22 _ (List.mem_of_getElem? (i := 23) rfl))
theorem hdS_X11_copy : yX11_copy.cls ≠ "java/lang/invoke/MethodHandle" ∧ yX11_copy.cls ≠ "java/lang/invoke/VarHandle" ∧ (parseMethodDescriptor yX11_copy.desc).map (fun d => d.parameters.length) = some 5 := by decide +kernel
theorem gcV_X11_comes {T0 : Cond} {own : String} {i : Nat} (h : Cond.methodLink own i yX11_comes ∈ wsL_law) : GoodIn (T0 :: wsL_law) (wsV own i RX11 yX11_comes wz_X11_comes) := gV h (mB23 _ (List.mem_of_getElem? (i := 1) rfl)) (mB23 _ (List.mem_of_getElem? (i := 2) rfl)) (mB1 _ (List.mem_of_getElem? (i := 5) rfl)) (mB23 _ (List.mem_of_getElem? (i := 3) rfl))
theorem hdV_X11_comes : yX11_comes.cls = RX11 ∧ yX11_comes.cls ≠ "java/lang/invoke/MethodHandle" ∧ yX11_comes.cls ≠ "java/lang/invoke/VarHandle" ∧ (parseMethodDescriptor yX11_comes.desc).map (fun d => d.parameters.length) = some 1 := by decide +kernel
def wz_X11_road : List Cond := .code yX11_road cX11_road 3 (some .int) :: wsL_law
abbrev r_X11_road : Room := { frames := 10, cells := 0, slots := 0, locals := 218 }
set_option maxHeartbeats 4000000 in
set_option maxRecDepth 100000 in
theorem c_X11_road (l : Launch) (D : va_G) (K : Nat → ClassId) (F : Nat) (adK adV : Nat → Nat) (tF : Nat) (hMo : Nat → Nat) (sz : Nat) (sMo : MS) (p1 : Int32) (res : Int32 × MS) (hf : f_X11_road F p1 sMo = some res) : Met l yX11_road wz_X11_road r_X11_road (va_Pc [.ref (hMo 99), .int p1] (PWz D K adK adV tF (wMo K hMo sMo) sz)) (va_Qi (fun r u => r = res.1 ∧ u = res.2) (fun u t => BW D K (va_A (wMo K hMo sMo) sz) (wMo K hMo u) t) (va_A (wMo K hMo sMo) sz)) 0 0 (va_A (wMo K hMo sMo) sz) := by
  refine Met.ofW (cc := cX11_road) (maxL := 3) (ret := (some .int)) (by decide) rfl ?_
  intro p e s m args below meth c s₁ B hml hv
  obtain ⟨hargs, ⟨hsz, hP, hK, hD0⟩, hZ⟩ := hv
  have hx := B.exec
  have hb := B.bytes
  have hr := B.returns
  have hts := atoms_spec (ws := wz_X11_road) B.pre
  have htl : ∀ w ∈ wsL_law, w.before args s = true := fun w h => hts w (List.mem_cons_of_mem _ h)
  have hown : s.vm.findClass RX11 = some m.cls := findClass_of_methodNamed B.named
  have hlocks := B.notSynchronized
  subst hsz
  have hD := hD0.self (sz := s.heap.size)
  generalize hAe : va_A (wMo K hMo sMo) s.heap.size = A at hD hZ ⊢
  have hA : ∀ q : Nat, s.heap.size ≤ q → A q := fun q h => by rw [← hAe]; exact Or.inr h
  have hS : va_S A s.heap s.heap [] := va_S.rf
  have iX11 : ∀ w ∈ wsX110, w ∈ wz_X11_road := fun w h => List.mem_cons_of_mem _ (inlX11 w h)
  suffices hgo : ∀ Q : State → Prop, Q = MQ below (va_Qi (fun r u => r = res.1 ∧ u = res.2) (fun u t => BW D K A (wMo K hMo u) t) A) args s 0 0 A → W p l e (headSpec wz_X11_road r_X11_road).room s m args below meth c s.heap [] 0 0 Q (entryFrame m args 3) from hgo _ rfl
  intro Q hQ
  have w235 : ∀ (sMo : MS), ∀ (H : Heap) (locs : List Loc) (ls : Array Slot), f_X11_road_235 F p1 sMo = some res → va_P D vwCl (wMo K hMo sMo) H → va_D A (wMo K hMo sMo) → va_S A s.heap H locs → lv_has ls 3 [(0, .ref (hMo 99))] → W p l e (headSpec wz_X11_road r_X11_road).room s m args below meth c H locs 0 0 Q (F0 m 235 ls []) := by
    intro sMo H locs ls hf hP hD hS hl
    unfold f_X11_road_235 at hf
    refine lv_aload_n hx hb dX11_road_235 rfl (lv_at hl 0 rfl) ?_
    refine lv_iconst (v := (1 : Int32)) hx hb dX11_road_236 (by decide) ?_
    refine va_put (D := D) (ci := 10) (v := .int (1 : Int32)) (ty := .boolean) (C := RX11) (T := TX11) (N := 41) hx hb hts iX11 tyX11 tyX11_ok nmX11 hown hK hP hD hS 0 o_Mo rfl 14 (by decide) (htl _ (mB18 _ (List.mem_of_getElem? (i := 4) rfl))) (fun _ h9 => h9) rfl (by decide +kernel) rfl rfl (Nat.le_of_ble_eq_true rfl) dX11_road_237 (fun H locs hP hD hS => ?_)
    have hP := cvP si_Mo_14 hP
    have hD := cvD si_Mo_14 hD
    obtain ⟨s43, es43⟩ : ∃ z, z = sI sMo 14 (1 : Int32) := ⟨_, rfl⟩
    have hP : va_P D vwCl (wMo K hMo s43) H := by rw [es43]; exact hP
    have hD : va_D A (wMo K hMo s43) := by rw [es43]; exact hD
    have hf := lz_s hf s43 es43
    refine lv_aload_n hx hb dX11_road_240 rfl (lv_at hl 0 rfl) ?_
    refine lv_iconst (v := (0 : Int32)) hx hb dX11_road_241 (by decide) ?_
    refine va_put (D := D) (ci := 10) (v := .int (0 : Int32)) (ty := .int) (C := RX11) (T := TX11) (N := 41) hx hb hts iX11 tyX11 tyX11_ok nmX11 hown hK hP hD hS 0 o_Mo rfl 21 (by decide) (htl _ (mB18 _ (List.mem_of_getElem? (i := 5) rfl))) (fun _ h9 => h9) rfl (by decide +kernel) rfl rfl (Nat.le_of_ble_eq_true rfl) dX11_road_242 (fun H locs hP hD hS => ?_)
    have hP := cvP si_Mo_21 hP
    have hD := cvD si_Mo_21 hD
    obtain ⟨s44, es44⟩ : ∃ z, z = sI s43 21 (0 : Int32) := ⟨_, rfl⟩
    have hP : va_P D vwCl (wMo K hMo s44) H := by rw [es44]; exact hP
    have hD : va_D A (wMo K hMo s44) := by rw [es44]; exact hD
    have hf := lz_s hf s44 es44
    refine lv_aload_n hx hb dX11_road_245 rfl (lv_at hl 0 rfl) ?_
    refine lv_iconst (v := (0 : Int32)) hx hb dX11_road_246 (by decide) ?_
    refine va_put (D := D) (ci := 10) (v := .int (0 : Int32)) (ty := .int) (C := RX11) (T := TX11) (N := 41) hx hb hts iX11 tyX11 tyX11_ok nmX11 hown hK hP hD hS 0 o_Mo rfl 22 (by decide) (htl _ (mB18 _ (List.mem_of_getElem? (i := 6) rfl))) (fun _ h9 => h9) rfl (by decide +kernel) rfl rfl (Nat.le_of_ble_eq_true rfl) dX11_road_247 (fun H locs hP hD hS => ?_)
    have hP := cvP si_Mo_22 hP
    have hD := cvD si_Mo_22 hD
    obtain ⟨s45, es45⟩ : ∃ z, z = sI s44 22 (0 : Int32) := ⟨_, rfl⟩
    have hP : va_P D vwCl (wMo K hMo s45) H := by rw [es45]; exact hP
    have hD : va_D A (wMo K hMo s45) := by rw [es45]; exact hD
    have hf := lz_s hf s45 es45
    refine lv_aload_n hx hb dX11_road_250 rfl (lv_at hl 0 rfl) ?_
    refine va_get (D := D) (ci := 10) (v := .ref (hMo 18)) (C := RX11) (T := TX11) (N := 41) hx hb hts iX11 hown hK hP 0 o_Mo rfl 18 (by decide) (htl _ (mB6 _ (List.mem_of_getElem? (i := 6) rfl))) (fun _ h9 => h9) rfl dX11_road_251 ?_
    refine lv_iconst (v := (1 : Int32)) hx hb dX11_road_254 (by decide) ?_
    refine lv_aload_n hx hb dX11_road_255 rfl (lv_at hl 0 rfl) ?_
    refine va_get (D := D) (ci := 10) (v := .ref (hMo 15)) (C := RX11) (T := TX11) (N := 41) hx hb hts iX11 hown hK hP 0 o_Mo rfl 15 (by decide) (htl _ (mB6 _ (List.mem_of_getElem? (i := 3) rfl))) (fun _ h9 => h9) rfl dX11_road_256 ?_
    refine lv_iconst (v := (1 : Int32)) hx hb dX11_road_259 (by decide) ?_
    obtain ⟨g46, hf⟩ := gd_s hf
    refine va_iald hx hb hK hP 3 0 (f := s45.2.2.1 15) a_Mo_15 rfl (vpb_in g46) dX11_road_260 ?_
    refine lv_topi (fun v47 ev47 => ?_)
    have hf := lz_s hf v47 ev47
    obtain ⟨g48, hf⟩ := gd_s hf
    refine va_iast hx hb hK hP hD hS 6 0 (f := s45.2.2.1 18) a_Mo_18 rfl (vpb_in g48) dX11_road_261 (fun H locs hP hD hS => ?_)
    have hP := cvP sa_Mo_18 hP
    have hD := cvD sa_Mo_18 hD
    obtain ⟨s49, es49⟩ : ∃ z, z = sA s45 18 ((1 : Int32).toNatClampNeg) v47 := ⟨_, rfl⟩
    have hP : va_P D vwCl (wMo K hMo s49) H := by rw [es49]; exact hP
    have hD : va_D A (wMo K hMo s49) := by rw [es49]; exact hD
    have hf := lz_s hf s49 es49
    refine lv_aload_n hx hb dX11_road_262 rfl (lv_at hl 0 rfl) ?_
    refine lv_aload_n hx hb dX11_road_263 rfl (lv_at hl 0 rfl) ?_
    refine va_get (D := D) (ci := 10) (v := .ref (hMo 15)) (C := RX11) (T := TX11) (N := 41) hx hb hts iX11 hown hK hP 0 o_Mo rfl 15 (by decide) (htl _ (mB6 _ (List.mem_of_getElem? (i := 3) rfl))) (fun _ h9 => h9) rfl dX11_road_264 ?_
    refine lv_sipush (v := (200 : Int32)) hx hb dX11_road_267 (by decide) ?_
    obtain ⟨g50, hf⟩ := gd_s hf
    refine va_iald hx hb hK hP 3 0 (f := s49.2.2.1 15) a_Mo_15 rfl (vpb_in g50) dX11_road_270 ?_
    refine lv_topi (fun v51 ev51 => ?_)
    have hf := lz_s hf v51 ev51
    obtain ⟨o52, go52, hf⟩ := bd_s hf
    refine rs_Vv (As := [.int v51]) (rest := []) ⟨hx, hb, hml, hown, hts⟩ (c_X11_comes l D K F hMo H.size s49 v51 o52 go52) (cwV 1 hts (gcV_X11_comes (mB23 _ (List.mem_of_getElem? (i := 0) rfl))) rfl rfl rfl hdV_X11_comes ⟨Nat.le_of_ble_eq_true rfl, Nat.le_of_ble_eq_true rfl⟩) hK hP hD hS hA (va_recv hK hP (ci := 10) (q0 := 0) rfl o_Mo) rfl hl.1 rfl (Nat.le_of_ble_eq_true rfl) dX11_road_271 ⟨Nat.zero_le _, Nat.zero_le _⟩ (fun H locs hP hD hS => ?_)
    have hP : va_P D vwCl (wMo K hMo o52) H := hP
    have hD : va_D A (wMo K hMo o52) := hD
    refine lv_aload_n hx hb dX11_road_274 rfl (lv_at hl 0 rfl) ?_
    refine va_get (D := D) (ci := 10) (v := .ref (hMo 15)) (C := RX11) (T := TX11) (N := 41) hx hb hts iX11 hown hK hP 0 o_Mo rfl 15 (by decide) (htl _ (mB6 _ (List.mem_of_getElem? (i := 3) rfl))) (fun _ h9 => h9) rfl dX11_road_275 ?_
    refine lv_bipush (v := (8 : Int32)) hx hb dX11_road_278 (by decide) ?_
    obtain ⟨g53, hf⟩ := gd_s hf
    refine va_iald hx hb hK hP 3 0 (f := o52.2.2.1 15) a_Mo_15 rfl (vpb_in g53) dX11_road_280 ?_
    refine lv_topi (fun v54 ev54 => ?_)
    have hf := lz_s hf v54 ev54
    have e9 := Option.some.inj hf
    rw [hQ]
    exact W.iret (v := v54) hx hb hr (fun t ht hW => ⟨⟨v54, o52, rfl, ⟨pr1 e9, pr2 e9⟩, ⟨by rw [ht]; exact hP, va_K.moved hW.alike hK, hD⟩⟩, hS.F ht⟩) hS.2.2 dX11_road_281
  have w216 : ∀ (n : Nat), ∀ (x2 : Int32), ∀ (sMo : MS), ∀ (H : Heap) (locs : List Loc) (ls : Array Slot), f_X11_road_216 F p1 n x2 sMo = some res → va_P D vwCl (wMo K hMo sMo) H → va_D A (wMo K hMo sMo) → va_S A s.heap H locs → lv_has ls 3 [(0, .ref (hMo 99)), (2, .int x2)] → W p l e (headSpec wz_X11_road r_X11_road).room s m args below meth c H locs 0 0 Q (F0 m 216 ls []) := by
    intro n
    induction n with
    | zero =>
      intro x2 sMo H locs ls hf
      exact absurd (show none = some res from hf) (fun h => nomatch h)
    | succ n ih =>
      intro x2 sMo H locs ls hf hP hD hS hl
      rw [f_X11_road_216] at hf
      refine lv_iload_n hx hb dX11_road_216 rfl (lv_at hl 1 rfl) ?_
      refine lv_bipush (v := (7 : Int32)) hx hb dX11_road_217 (by decide) ?_
      refine lv_icmp_ge (tgt := 235) hx hb dX11_road_219 (by decide) (fun c39 => ?_) (fun c39 => ?_)
      · have hf := it_t hf c39
        exact w235 sMo H locs ls hf hP hD hS (lv_sub hl [0] rfl)
      · have hf := it_f hf c39
        refine lv_aload_n hx hb dX11_road_222 rfl (lv_at hl 0 rfl) ?_
        refine va_get (D := D) (ci := 10) (v := .ref (hMo 18)) (C := RX11) (T := TX11) (N := 41) hx hb hts iX11 hown hK hP 0 o_Mo rfl 18 (by decide) (htl _ (mB6 _ (List.mem_of_getElem? (i := 6) rfl))) (fun _ h9 => h9) rfl dX11_road_223 ?_
        refine lv_iload_n hx hb dX11_road_226 rfl (lv_at hl 1 rfl) ?_
        refine lv_iconst (v := (0 : Int32)) hx hb dX11_road_227 (by decide) ?_
        obtain ⟨g40, hf⟩ := gd_s hf
        refine va_iast hx hb hK hP hD hS 6 0 (f := sMo.2.2.1 18) a_Mo_18 rfl (vpb_in g40) dX11_road_228 (fun H locs hP hD hS => ?_)
        have hP := cvP sa_Mo_18 hP
        have hD := cvD sa_Mo_18 hD
        obtain ⟨s41, es41⟩ : ∃ z, z = sA sMo 18 x2.toNatClampNeg (0 : Int32) := ⟨_, rfl⟩
        have hP : va_P D vwCl (wMo K hMo s41) H := by rw [es41]; exact hP
        have hD : va_D A (wMo K hMo s41) := by rw [es41]; exact hD
        have hf := lz_s hf s41 es41
        obtain ⟨v42, ev42⟩ : ∃ z : Int32, z = x2 + (1 : Int32) := ⟨_, rfl⟩
        have hf := lz_s hf v42 ev42
        refine lv_iinc (v := v42) (lv' := [(2, .int v42), (0, .ref (hMo 99))]) hx hb dX11_road_229 hl (k := 1) rfl (by rw [ev42]; rfl) (by decide) rfl (fun ls hl => ?_)
        refine lv_goto (tgt := 216) hx hb dX11_road_232 (by decide) ?_
        exact ih v42 s41 H locs ls hf hP hD hS (lv_sub hl [1, 0] rfl)
  have w214 : ∀ (sMo : MS), ∀ (H : Heap) (locs : List Loc) (ls : Array Slot), f_X11_road_214 F p1 sMo = some res → va_P D vwCl (wMo K hMo sMo) H → va_D A (wMo K hMo sMo) → va_S A s.heap H locs → lv_has ls 3 [(0, .ref (hMo 99))] → W p l e (headSpec wz_X11_road r_X11_road).room s m args below meth c H locs 0 0 Q (F0 m 214 ls []) := by
    intro sMo H locs ls hf hP hD hS hl
    unfold f_X11_road_214 at hf
    refine lv_iconst (v := (0 : Int32)) hx hb dX11_road_214 (by decide) ?_
    refine lv_istore_n (lv' := [(2, .int (0 : Int32)), (0, .ref (hMo 99))]) hx hb dX11_road_215 rfl hl (by decide) rfl (fun ls hl => ?_)
    exact w216 F (0 : Int32) sMo H locs ls hf hP hD hS (lv_sub hl [1, 0] rfl)
  have w195 : ∀ (n : Nat), ∀ (x2 : Int32), ∀ (sMo : MS), ∀ (H : Heap) (locs : List Loc) (ls : Array Slot), f_X11_road_195 F p1 n x2 sMo = some res → va_P D vwCl (wMo K hMo sMo) H → va_D A (wMo K hMo sMo) → va_S A s.heap H locs → lv_has ls 3 [(0, .ref (hMo 99)), (2, .int x2)] → W p l e (headSpec wz_X11_road r_X11_road).room s m args below meth c H locs 0 0 Q (F0 m 195 ls []) := by
    intro n
    induction n with
    | zero =>
      intro x2 sMo H locs ls hf
      exact absurd (show none = some res from hf) (fun h => nomatch h)
    | succ n ih =>
      intro x2 sMo H locs ls hf hP hD hS hl
      rw [f_X11_road_195] at hf
      refine lv_iload_n hx hb dX11_road_195 rfl (lv_at hl 1 rfl) ?_
      refine lv_bipush (v := (9 : Int32)) hx hb dX11_road_196 (by decide) ?_
      refine lv_icmp_ge (tgt := 214) hx hb dX11_road_198 (by decide) (fun c35 => ?_) (fun c35 => ?_)
      · have hf := it_t hf c35
        exact w214 sMo H locs ls hf hP hD hS (lv_sub hl [0] rfl)
      · have hf := it_f hf c35
        refine lv_aload_n hx hb dX11_road_201 rfl (lv_at hl 0 rfl) ?_
        refine va_get (D := D) (ci := 10) (v := .ref (hMo 17)) (C := RX11) (T := TX11) (N := 41) hx hb hts iX11 hown hK hP 0 o_Mo rfl 17 (by decide) (htl _ (mB6 _ (List.mem_of_getElem? (i := 5) rfl))) (fun _ h9 => h9) rfl dX11_road_202 ?_
        refine lv_iload_n hx hb dX11_road_205 rfl (lv_at hl 1 rfl) ?_
        refine lv_iconst (v := (0 : Int32)) hx hb dX11_road_206 (by decide) ?_
        obtain ⟨g36, hf⟩ := gd_s hf
        refine va_iast hx hb hK hP hD hS 5 0 (f := sMo.2.2.1 17) a_Mo_17 rfl (vpb_in g36) dX11_road_207 (fun H locs hP hD hS => ?_)
        have hP := cvP sa_Mo_17 hP
        have hD := cvD sa_Mo_17 hD
        obtain ⟨s37, es37⟩ : ∃ z, z = sA sMo 17 x2.toNatClampNeg (0 : Int32) := ⟨_, rfl⟩
        have hP : va_P D vwCl (wMo K hMo s37) H := by rw [es37]; exact hP
        have hD : va_D A (wMo K hMo s37) := by rw [es37]; exact hD
        have hf := lz_s hf s37 es37
        obtain ⟨v38, ev38⟩ : ∃ z : Int32, z = x2 + (1 : Int32) := ⟨_, rfl⟩
        have hf := lz_s hf v38 ev38
        refine lv_iinc (v := v38) (lv' := [(2, .int v38), (0, .ref (hMo 99))]) hx hb dX11_road_208 hl (k := 1) rfl (by rw [ev38]; rfl) (by decide) rfl (fun ls hl => ?_)
        refine lv_goto (tgt := 195) hx hb dX11_road_211 (by decide) ?_
        exact ih v38 s37 H locs ls hf hP hD hS (lv_sub hl [1, 0] rfl)
  have w164 : ∀ (sMo : MS), ∀ (H : Heap) (locs : List Loc) (ls : Array Slot), f_X11_road_164 F p1 sMo = some res → va_P D vwCl (wMo K hMo sMo) H → va_D A (wMo K hMo sMo) → va_S A s.heap H locs → lv_has ls 3 [(0, .ref (hMo 99))] → W p l e (headSpec wz_X11_road r_X11_road).room s m args below meth c H locs 0 0 Q (F0 m 164 ls []) := by
    intro sMo H locs ls hf hP hD hS hl
    unfold f_X11_road_164 at hf
    refine lv_aload_n hx hb dX11_road_164 rfl (lv_at hl 0 rfl) ?_
    refine va_get (D := D) (ci := 10) (v := .int (sMo.1 13)) (C := RX11) (T := TX11) (N := 41) hx hb hts iX11 hown hK hP 0 o_Mo rfl 13 (by decide) (htl _ (mB17 _ (List.mem_of_getElem? (i := 23) rfl))) (fun _ h9 => h9) rfl dX11_road_165 ?_
    refine lv_if_eq (tgt := 177) hx hb dX11_road_168 (by decide) (fun c31 => ?_) (fun c31 => ?_)
    · have hf := it_t hf c31
      refine lv_aload_n hx hb dX11_road_177 rfl (lv_at hl 0 rfl) ?_
      refine va_get (D := D) (ci := 10) (v := .ref (hMo 16)) (C := RX11) (T := TX11) (N := 41) hx hb hts iX11 hown hK hP 0 o_Mo rfl 16 (by decide) (htl _ (mB6 _ (List.mem_of_getElem? (i := 4) rfl))) (fun _ h9 => h9) rfl dX11_road_178 ?_
      refine lv_iconst (v := (0 : Int32)) hx hb dX11_road_181 (by decide) ?_
      refine lv_aload_n hx hb dX11_road_182 rfl (lv_at hl 0 rfl) ?_
      refine va_get (D := D) (ci := 10) (v := .ref (hMo 15)) (C := RX11) (T := TX11) (N := 41) hx hb hts iX11 hown hK hP 0 o_Mo rfl 15 (by decide) (htl _ (mB6 _ (List.mem_of_getElem? (i := 3) rfl))) (fun _ h9 => h9) rfl dX11_road_183 ?_
      refine lv_iconst (v := (0 : Int32)) hx hb dX11_road_186 (by decide) ?_
      refine lv_sipush (v := (300 : Int32)) hx hb dX11_road_187 (by decide) ?_
      obtain ⟨o32, go32, hf⟩ := bd_s hf
      refine rw_Sv (wn := wMo K hMo (wA sMo 15 o32)) (As := [.ref (hMo 16), .int (0 : Int32), .ref (hMo 15), .int (0 : Int32), .int (300 : Int32)]) (rest := []) ⟨hx, hb, hml, hown, hts⟩ (c_X11_copy l D K F (hMo 16) 300 (hMo 15) 300 H.size (sMo.2.2.1 16) (sMo.2.2.1 15) (0 : Int32) (0 : Int32) (300 : Int32) o32 go32) (va_cwS 5 hts (gcS_X11_copy (mB22 _ (List.mem_of_getElem? (i := 21) rfl))) rfl rfl rfl hdS_X11_copy ⟨Nat.le_of_ble_eq_true rfl, Nat.le_of_ble_eq_true rfl⟩) hK hP hD hS hA [4, 3] [0, 1, 2, 5, 6, 7, 8, 9, 10, 11, 12, 13, 14, 15, 16, 17] [0, 1, 2, 17, 16, 3, 4, 5, 6, 7, 8, 9, 10, 11, 12, 13, 14, 15] rfl rfl (by decide +kernel) (by decide +kernel) (by decide +kernel) rfl (by decide +kernel) rfl hl.1 rfl (Nat.le_of_ble_eq_true rfl) dX11_road_190 ⟨Nat.zero_le _, Nat.zero_le _⟩ (fun H locs hP hD hS => ?_)
      have hP : va_P D vwCl (wMo K hMo (wA sMo 15 o32)) H := hP
      have hD : va_D A (wMo K hMo (wA sMo 15 o32)) := hD
      obtain ⟨s33, es33⟩ : ∃ z, z = (wA sMo 15 o32) := ⟨_, rfl⟩
      have hP : va_P D vwCl (wMo K hMo s33) H := by rw [es33]; exact hP
      have hD : va_D A (wMo K hMo s33) := by rw [es33]; exact hD
      have hf := lz_s hf s33 es33
      refine lv_iconst (v := (0 : Int32)) hx hb dX11_road_193 (by decide) ?_
      refine lv_istore_n (lv' := [(2, .int (0 : Int32)), (0, .ref (hMo 99))]) hx hb dX11_road_194 rfl hl (by decide) rfl (fun ls hl => ?_)
      exact w195 F (0 : Int32) s33 H locs ls hf hP hD hS (lv_sub hl [1, 0] rfl)
    · have hf := it_f hf c31
      refine lv_aload_n hx hb dX11_road_171 rfl (lv_at hl 0 rfl) ?_
      refine lv_iconst (v := (4 : Int32)) hx hb dX11_road_172 (by decide) ?_
      obtain ⟨o34, go34, hf⟩ := bd_s hf
      refine rs_Vi (As := [.int (4 : Int32)]) (rest := []) ⟨hx, hb, hml, hown, hts⟩ (c_X11_no l D K F hMo H.size sMo (4 : Int32) o34 go34) (cwV 1 hts (gcV_X11_no (mB18 _ (List.mem_of_getElem? (i := 15) rfl))) rfl rfl rfl hdV_X11_no ⟨Nat.le_of_ble_eq_true rfl, Nat.le_of_ble_eq_true rfl⟩) hK hP hD hS hA (va_recv hK hP (ci := 10) (q0 := 0) rfl o_Mo) rfl hl.1 rfl (Nat.le_of_ble_eq_true rfl) dX11_road_173 ⟨Nat.zero_le _, Nat.zero_le _⟩ (fun H locs hP hD hS => ?_)
      have hP : va_P D vwCl (wMo K hMo o34.2) H := hP
      have hD : va_D A (wMo K hMo o34.2) := hD
      have e9 := Option.some.inj hf
      rw [hQ]
      exact W.iret (v := o34.1) hx hb hr (fun t ht hW => ⟨⟨o34.1, o34.2, rfl, ⟨pr1 e9, pr2 e9⟩, ⟨by rw [ht]; exact hP, va_K.moved hW.alike hK, hD⟩⟩, hS.F ht⟩) hS.2.2 dX11_road_176
  have w154 : ∀ (sMo : MS), ∀ (H : Heap) (locs : List Loc) (ls : Array Slot), f_X11_road_154 F p1 sMo = some res → va_P D vwCl (wMo K hMo sMo) H → va_D A (wMo K hMo sMo) → va_S A s.heap H locs → lv_has ls 3 [(0, .ref (hMo 99))] → W p l e (headSpec wz_X11_road r_X11_road).room s m args below meth c H locs 0 0 Q (F0 m 154 ls []) := by
    intro sMo H locs ls hf hP hD hS hl
    unfold f_X11_road_154 at hf
    refine lv_aload_n hx hb dX11_road_154 rfl (lv_at hl 0 rfl) ?_
    refine lv_bipush (v := (6 : Int32)) hx hb dX11_road_155 (by decide) ?_
    refine lv_aload_n hx hb dX11_road_157 rfl (lv_at hl 0 rfl) ?_
    refine va_get (D := D) (ci := 10) (v := .int (sMo.1 4)) (C := RX11) (T := TX11) (N := 41) hx hb hts iX11 hown hK hP 0 o_Mo rfl 4 (by decide) (htl _ (mB18 _ (List.mem_of_getElem? (i := 3) rfl))) (fun _ h9 => h9) rfl dX11_road_158 ?_
    obtain ⟨o30, go30, hf⟩ := bd_s hf
    refine rs_Vv (As := [.int (6 : Int32), .int (sMo.1 4)]) (rest := []) ⟨hx, hb, hml, hown, hts⟩ (c_X11_wrong l D K F hMo H.size sMo (6 : Int32) (sMo.1 4) o30 go30) (cwV 2 hts (gcV_X11_wrong (mB20 _ (List.mem_of_getElem? (i := 1) rfl))) rfl rfl rfl hdV_X11_wrong ⟨Nat.le_of_ble_eq_true rfl, Nat.le_of_ble_eq_true rfl⟩) hK hP hD hS hA (va_recv hK hP (ci := 10) (q0 := 0) rfl o_Mo) rfl hl.1 rfl (Nat.le_of_ble_eq_true rfl) dX11_road_161 ⟨Nat.zero_le _, Nat.zero_le _⟩ (fun H locs hP hD hS => ?_)
    have hP : va_P D vwCl (wMo K hMo o30) H := hP
    have hD : va_D A (wMo K hMo o30) := hD
    exact w164 o30 H locs ls hf hP hD hS (lv_sub hl [0] rfl)
  have w127 : ∀ (sMo : MS), ∀ (H : Heap) (locs : List Loc) (ls : Array Slot), f_X11_road_127 F p1 sMo = some res → va_P D vwCl (wMo K hMo sMo) H → va_D A (wMo K hMo sMo) → va_S A s.heap H locs → lv_has ls 3 [(0, .ref (hMo 99))] → W p l e (headSpec wz_X11_road r_X11_road).room s m args below meth c H locs 0 0 Q (F0 m 127 ls []) := by
    intro sMo H locs ls hf hP hD hS hl
    unfold f_X11_road_127 at hf
    refine lv_aload_n hx hb dX11_road_127 rfl (lv_at hl 0 rfl) ?_
    refine va_get (D := D) (ci := 10) (v := .int (sMo.1 13)) (C := RX11) (T := TX11) (N := 41) hx hb hts iX11 hown hK hP 0 o_Mo rfl 13 (by decide) (htl _ (mB17 _ (List.mem_of_getElem? (i := 23) rfl))) (fun _ h9 => h9) rfl dX11_road_128 ?_
    refine lv_if_ne (tgt := 164) hx hb dX11_road_131 (by decide) (fun c23 => ?_) (fun c23 => ?_)
    · have hf := it_f hf c23
      exact w164 sMo H locs ls hf hP hD hS (lv_sub hl [0] rfl)
    · have hf := it_t hf c23
      refine lv_aload_n hx hb dX11_road_134 rfl (lv_at hl 0 rfl) ?_
      refine va_get (D := D) (ci := 10) (v := .ref (hMo 16)) (C := RX11) (T := TX11) (N := 41) hx hb hts iX11 hown hK hP 0 o_Mo rfl 16 (by decide) (htl _ (mB6 _ (List.mem_of_getElem? (i := 4) rfl))) (fun _ h9 => h9) rfl dX11_road_135 ?_
      refine lv_bipush (v := (10 : Int32)) hx hb dX11_road_138 (by decide) ?_
      obtain ⟨g24, hf⟩ := gd_s hf
      refine va_iald hx hb hK hP 4 0 (f := sMo.2.2.1 16) a_Mo_16 rfl (vpb_in g24) dX11_road_140 ?_
      refine lv_topi (fun v25 ev25 => ?_)
      have hf := lz_s hf v25 ev25
      refine lv_if_eq (tgt := 154) hx hb dX11_road_141 (by decide) (fun c26 => ?_) (fun c26 => ?_)
      · have hf := it_t hf c26
        exact w154 sMo H locs ls hf hP hD hS (lv_sub hl [0] rfl)
      · have hf := it_f hf c26
        refine lv_aload_n hx hb dX11_road_144 rfl (lv_at hl 0 rfl) ?_
        refine va_get (D := D) (ci := 10) (v := .ref (hMo 16)) (C := RX11) (T := TX11) (N := 41) hx hb hts iX11 hown hK hP 0 o_Mo rfl 16 (by decide) (htl _ (mB6 _ (List.mem_of_getElem? (i := 4) rfl))) (fun _ h9 => h9) rfl dX11_road_145 ?_
        refine lv_bipush (v := (8 : Int32)) hx hb dX11_road_148 (by decide) ?_
        obtain ⟨g27, hf⟩ := gd_s hf
        refine va_iald hx hb hK hP 4 0 (f := sMo.2.2.1 16) a_Mo_16 rfl (vpb_in g27) dX11_road_150 ?_
        refine lv_topi (fun v28 ev28 => ?_)
        have hf := lz_s hf v28 ev28
        refine lv_if_ne (tgt := 164) hx hb dX11_road_151 (by decide) (fun c29 => ?_) (fun c29 => ?_)
        · have hf := it_f hf c29
          exact w164 sMo H locs ls hf hP hD hS (lv_sub hl [0] rfl)
        · have hf := it_t hf c29
          exact w154 sMo H locs ls hf hP hD hS (lv_sub hl [0] rfl)
  have w104 : ∀ (sMo : MS), ∀ (H : Heap) (locs : List Loc) (ls : Array Slot), f_X11_road_104 F p1 sMo = some res → va_P D vwCl (wMo K hMo sMo) H → va_D A (wMo K hMo sMo) → va_S A s.heap H locs → lv_has ls 3 [(0, .ref (hMo 99))] → W p l e (headSpec wz_X11_road r_X11_road).room s m args below meth c H locs 0 0 Q (F0 m 104 ls []) := by
    intro sMo H locs ls hf hP hD hS hl
    unfold f_X11_road_104 at hf
    refine lv_aload_n hx hb dX11_road_104 rfl (lv_at hl 0 rfl) ?_
    refine va_get (D := D) (ci := 10) (v := .int (sMo.1 13)) (C := RX11) (T := TX11) (N := 41) hx hb hts iX11 hown hK hP 0 o_Mo rfl 13 (by decide) (htl _ (mB17 _ (List.mem_of_getElem? (i := 23) rfl))) (fun _ h9 => h9) rfl dX11_road_105 ?_
    refine lv_if_ne (tgt := 127) hx hb dX11_road_108 (by decide) (fun c20 => ?_) (fun c20 => ?_)
    · have hf := it_f hf c20
      exact w127 sMo H locs ls hf hP hD hS (lv_sub hl [0] rfl)
    · have hf := it_t hf c20
      refine lv_aload_n hx hb dX11_road_111 rfl (lv_at hl 0 rfl) ?_
      refine va_get (D := D) (ci := 10) (v := .int (sMo.1 6)) (C := RX11) (T := TX11) (N := 41) hx hb hts iX11 hown hK hP 0 o_Mo rfl 6 (by decide) (htl _ (mB18 _ (List.mem_of_getElem? (i := 2) rfl))) (fun _ h9 => h9) rfl dX11_road_112 ?_
      refine lv_if_eq (tgt := 127) hx hb dX11_road_115 (by decide) (fun c21 => ?_) (fun c21 => ?_)
      · have hf := it_t hf c21
        exact w127 sMo H locs ls hf hP hD hS (lv_sub hl [0] rfl)
      · have hf := it_f hf c21
        refine lv_aload_n hx hb dX11_road_118 rfl (lv_at hl 0 rfl) ?_
        refine lv_iconst (v := (1 : Int32)) hx hb dX11_road_119 (by decide) ?_
        refine lv_aload_n hx hb dX11_road_120 rfl (lv_at hl 0 rfl) ?_
        refine va_get (D := D) (ci := 10) (v := .int (sMo.1 4)) (C := RX11) (T := TX11) (N := 41) hx hb hts iX11 hown hK hP 0 o_Mo rfl 4 (by decide) (htl _ (mB18 _ (List.mem_of_getElem? (i := 3) rfl))) (fun _ h9 => h9) rfl dX11_road_121 ?_
        obtain ⟨o22, go22, hf⟩ := bd_s hf
        refine rs_Vv (As := [.int (1 : Int32), .int (sMo.1 4)]) (rest := []) ⟨hx, hb, hml, hown, hts⟩ (c_X11_wrong l D K F hMo H.size sMo (1 : Int32) (sMo.1 4) o22 go22) (cwV 2 hts (gcV_X11_wrong (mB20 _ (List.mem_of_getElem? (i := 1) rfl))) rfl rfl rfl hdV_X11_wrong ⟨Nat.le_of_ble_eq_true rfl, Nat.le_of_ble_eq_true rfl⟩) hK hP hD hS hA (va_recv hK hP (ci := 10) (q0 := 0) rfl o_Mo) rfl hl.1 rfl (Nat.le_of_ble_eq_true rfl) dX11_road_124 ⟨Nat.zero_le _, Nat.zero_le _⟩ (fun H locs hP hD hS => ?_)
        have hP : va_P D vwCl (wMo K hMo o22) H := hP
        have hD : va_D A (wMo K hMo o22) := hD
        exact w127 o22 H locs ls hf hP hD hS (lv_sub hl [0] rfl)
  have w77 : ∀ (n : Nat), ∀ (sMo : MS), ∀ (H : Heap) (locs : List Loc) (ls : Array Slot), f_X11_road_77 F p1 n sMo = some res → va_P D vwCl (wMo K hMo sMo) H → va_D A (wMo K hMo sMo) → va_S A s.heap H locs → lv_has ls 3 [(0, .ref (hMo 99))] → W p l e (headSpec wz_X11_road r_X11_road).room s m args below meth c H locs 0 0 Q (F0 m 77 ls []) := by
    intro n
    induction n with
    | zero =>
      intro sMo H locs ls hf
      exact absurd (show none = some res from hf) (fun h => nomatch h)
    | succ n ih =>
      intro sMo H locs ls hf hP hD hS hl
      rw [f_X11_road_77] at hf
      refine lv_aload_n hx hb dX11_road_77 rfl (lv_at hl 0 rfl) ?_
      refine va_get (D := D) (ci := 10) (v := .int (sMo.1 13)) (C := RX11) (T := TX11) (N := 41) hx hb hts iX11 hown hK hP 0 o_Mo rfl 13 (by decide) (htl _ (mB17 _ (List.mem_of_getElem? (i := 23) rfl))) (fun _ h9 => h9) rfl dX11_road_78 ?_
      refine lv_if_ne (tgt := 104) hx hb dX11_road_81 (by decide) (fun c16 => ?_) (fun c16 => ?_)
      · have hf := it_f hf c16
        exact w104 sMo H locs ls hf hP hD hS (lv_sub hl [0] rfl)
      · have hf := it_t hf c16
        refine lv_aload_n hx hb dX11_road_84 rfl (lv_at hl 0 rfl) ?_
        refine va_get (D := D) (ci := 10) (v := .int (sMo.1 6)) (C := RX11) (T := TX11) (N := 41) hx hb hts iX11 hown hK hP 0 o_Mo rfl 6 (by decide) (htl _ (mB18 _ (List.mem_of_getElem? (i := 2) rfl))) (fun _ h9 => h9) rfl dX11_road_85 ?_
        refine lv_bipush (v := (59 : Int32)) hx hb dX11_road_88 (by decide) ?_
        refine lv_icmp_ne (tgt := 104) hx hb dX11_road_90 (by decide) (fun c17 => ?_) (fun c17 => ?_)
        · have hf := it_f hf c17
          exact w104 sMo H locs ls hf hP hD hS (lv_sub hl [0] rfl)
        · have hf := it_t hf c17
          refine lv_aload_n hx hb dX11_road_93 rfl (lv_at hl 0 rfl) ?_
          obtain ⟨o18, go18, hf⟩ := bd_s hf
          refine rs_Vv (As := []) (rest := []) ⟨hx, hb, hml, hown, hts⟩ (c_X11_next l D K F hMo H.size sMo o18 go18) (cwV 0 hts (gcV_X11_next (mB18 _ (List.mem_of_getElem? (i := 19) rfl))) rfl rfl rfl hdV_X11_next ⟨Nat.le_of_ble_eq_true rfl, Nat.le_of_ble_eq_true rfl⟩) hK hP hD hS hA (va_recv hK hP (ci := 10) (q0 := 0) rfl o_Mo) rfl hl.1 rfl (Nat.le_of_ble_eq_true rfl) dX11_road_94 ⟨Nat.zero_le _, Nat.zero_le _⟩ (fun H locs hP hD hS => ?_)
          have hP : va_P D vwCl (wMo K hMo o18) H := hP
          have hD : va_D A (wMo K hMo o18) := hD
          refine lv_aload_n hx hb dX11_road_97 rfl (lv_at hl 0 rfl) ?_
          obtain ⟨o19, go19, hf⟩ := bd_s hf
          refine rs_Vvz (As := []) (rest := []) ⟨hx, hb, hml, hown, hts⟩ (c_X11_readLine l D K F adK adV tF hMo H.size o18 o19 go19) (cwV 0 hts (gcV_X11_readLine (mB19 _ (List.mem_of_getElem? (i := 11) rfl))) rfl rfl rfl hdV_X11_readLine ⟨Nat.le_of_ble_eq_true rfl, Nat.le_of_ble_eq_true rfl⟩) hK hP hD hS hA hZ (va_recv hK hP (ci := 10) (q0 := 0) rfl o_Mo) rfl hl.1 rfl (Nat.le_of_ble_eq_true rfl) dX11_road_98 ⟨Nat.zero_le _, Nat.zero_le _⟩ (fun H locs hP hD hS => ?_)
          have hP : va_P D vwCl (wMo K hMo o19) H := hP
          have hD : va_D A (wMo K hMo o19) := hD
          refine lv_goto (tgt := 77) hx hb dX11_road_101 (by decide) ?_
          exact ih o19 H locs ls hf hP hD hS (lv_sub hl [0] rfl)
  have w59 : ∀ (sMo : MS), ∀ (H : Heap) (locs : List Loc) (ls : Array Slot), f_X11_road_59 F p1 sMo = some res → va_P D vwCl (wMo K hMo sMo) H → va_D A (wMo K hMo sMo) → va_S A s.heap H locs → lv_has ls 3 [(0, .ref (hMo 99)), (1, .int p1)] → W p l e (headSpec wz_X11_road r_X11_road).room s m args below meth c H locs 0 0 Q (F0 m 59 ls []) := by
    intro sMo H locs ls hf hP hD hS hl
    unfold f_X11_road_59 at hf
    refine lv_aload_n hx hb dX11_road_59 rfl (lv_at hl 0 rfl) ?_
    refine lv_iload_n hx hb dX11_road_60 rfl (lv_at hl 1 rfl) ?_
    refine va_put (D := D) (ci := 10) (v := .int p1) (ty := .int) (C := RX11) (T := TX11) (N := 41) hx hb hts iX11 tyX11 tyX11_ok nmX11 hown hK hP hD hS 0 o_Mo rfl 3 (by decide) (htl _ (mB18 _ (List.mem_of_getElem? (i := 0) rfl))) (fun _ h9 => h9) rfl (by decide +kernel) rfl rfl (Nat.le_of_ble_eq_true rfl) dX11_road_61 (fun H locs hP hD hS => ?_)
    have hP := cvP si_Mo_3 hP
    have hD := cvD si_Mo_3 hD
    obtain ⟨s12, es12⟩ : ∃ z, z = sI sMo 3 p1 := ⟨_, rfl⟩
    have hP : va_P D vwCl (wMo K hMo s12) H := by rw [es12]; exact hP
    have hD : va_D A (wMo K hMo s12) := by rw [es12]; exact hD
    have hf := lz_s hf s12 es12
    refine lv_aload_n hx hb dX11_road_64 rfl (lv_at hl 0 rfl) ?_
    refine lv_iconst (v := (0 : Int32)) hx hb dX11_road_65 (by decide) ?_
    refine va_put (D := D) (ci := 10) (v := .int (0 : Int32)) (ty := .int) (C := RX11) (T := TX11) (N := 41) hx hb hts iX11 tyX11 tyX11_ok nmX11 hown hK hP hD hS 0 o_Mo rfl 5 (by decide) (htl _ (mB18 _ (List.mem_of_getElem? (i := 1) rfl))) (fun _ h9 => h9) rfl (by decide +kernel) rfl rfl (Nat.le_of_ble_eq_true rfl) dX11_road_66 (fun H locs hP hD hS => ?_)
    have hP := cvP si_Mo_5 hP
    have hD := cvD si_Mo_5 hD
    obtain ⟨s13, es13⟩ : ∃ z, z = sI s12 5 (0 : Int32) := ⟨_, rfl⟩
    have hP : va_P D vwCl (wMo K hMo s13) H := by rw [es13]; exact hP
    have hD : va_D A (wMo K hMo s13) := by rw [es13]; exact hD
    have hf := lz_s hf s13 es13
    refine lv_aload_n hx hb dX11_road_69 rfl (lv_at hl 0 rfl) ?_
    obtain ⟨o14, go14, hf⟩ := bd_s hf
    refine rs_Vv (As := []) (rest := []) ⟨hx, hb, hml, hown, hts⟩ (c_X11_next l D K F hMo H.size s13 o14 go14) (cwV 0 hts (gcV_X11_next (mB18 _ (List.mem_of_getElem? (i := 19) rfl))) rfl rfl rfl hdV_X11_next ⟨Nat.le_of_ble_eq_true rfl, Nat.le_of_ble_eq_true rfl⟩) hK hP hD hS hA (va_recv hK hP (ci := 10) (q0 := 0) rfl o_Mo) rfl hl.1 rfl (Nat.le_of_ble_eq_true rfl) dX11_road_70 ⟨Nat.zero_le _, Nat.zero_le _⟩ (fun H locs hP hD hS => ?_)
    have hP : va_P D vwCl (wMo K hMo o14) H := hP
    have hD : va_D A (wMo K hMo o14) := hD
    refine lv_aload_n hx hb dX11_road_73 rfl (lv_at hl 0 rfl) ?_
    obtain ⟨o15, go15, hf⟩ := bd_s hf
    refine rs_Vvz (As := []) (rest := []) ⟨hx, hb, hml, hown, hts⟩ (c_X11_readLine l D K F adK adV tF hMo H.size o14 o15 go15) (cwV 0 hts (gcV_X11_readLine (mB19 _ (List.mem_of_getElem? (i := 11) rfl))) rfl rfl rfl hdV_X11_readLine ⟨Nat.le_of_ble_eq_true rfl, Nat.le_of_ble_eq_true rfl⟩) hK hP hD hS hA hZ (va_recv hK hP (ci := 10) (q0 := 0) rfl o_Mo) rfl hl.1 rfl (Nat.le_of_ble_eq_true rfl) dX11_road_74 ⟨Nat.zero_le _, Nat.zero_le _⟩ (fun H locs hP hD hS => ?_)
    have hP : va_P D vwCl (wMo K hMo o15) H := hP
    have hD : va_D A (wMo K hMo o15) := hD
    exact w77 F o15 H locs ls hf hP hD hS (lv_sub hl [0] rfl)
  have w39 : ∀ (n : Nat), ∀ (x2 : Int32), ∀ (sMo : MS), ∀ (H : Heap) (locs : List Loc) (ls : Array Slot), f_X11_road_39 F p1 n x2 sMo = some res → va_P D vwCl (wMo K hMo sMo) H → va_D A (wMo K hMo sMo) → va_S A s.heap H locs → lv_has ls 3 [(0, .ref (hMo 99)), (1, .int p1), (2, .int x2)] → W p l e (headSpec wz_X11_road r_X11_road).room s m args below meth c H locs 0 0 Q (F0 m 39 ls []) := by
    intro n
    induction n with
    | zero =>
      intro x2 sMo H locs ls hf
      exact absurd (show none = some res from hf) (fun h => nomatch h)
    | succ n ih =>
      intro x2 sMo H locs ls hf hP hD hS hl
      rw [f_X11_road_39] at hf
      refine lv_iload_n hx hb dX11_road_39 rfl (lv_at hl 2 rfl) ?_
      refine lv_sipush (v := (300 : Int32)) hx hb dX11_road_40 (by decide) ?_
      refine lv_icmp_ge (tgt := 59) hx hb dX11_road_43 (by decide) (fun c8 => ?_) (fun c8 => ?_)
      · have hf := it_t hf c8
        exact w59 sMo H locs ls hf hP hD hS (lv_sub hl [0, 1] rfl)
      · have hf := it_f hf c8
        refine lv_aload_n hx hb dX11_road_46 rfl (lv_at hl 0 rfl) ?_
        refine va_get (D := D) (ci := 10) (v := .ref (hMo 16)) (C := RX11) (T := TX11) (N := 41) hx hb hts iX11 hown hK hP 0 o_Mo rfl 16 (by decide) (htl _ (mB6 _ (List.mem_of_getElem? (i := 4) rfl))) (fun _ h9 => h9) rfl dX11_road_47 ?_
        refine lv_iload_n hx hb dX11_road_50 rfl (lv_at hl 2 rfl) ?_
        refine lv_iconst (v := (0 : Int32)) hx hb dX11_road_51 (by decide) ?_
        obtain ⟨g9, hf⟩ := gd_s hf
        refine va_iast hx hb hK hP hD hS 4 0 (f := sMo.2.2.1 16) a_Mo_16 rfl (vpb_in g9) dX11_road_52 (fun H locs hP hD hS => ?_)
        have hP := cvP sa_Mo_16 hP
        have hD := cvD sa_Mo_16 hD
        obtain ⟨s10, es10⟩ : ∃ z, z = sA sMo 16 x2.toNatClampNeg (0 : Int32) := ⟨_, rfl⟩
        have hP : va_P D vwCl (wMo K hMo s10) H := by rw [es10]; exact hP
        have hD : va_D A (wMo K hMo s10) := by rw [es10]; exact hD
        have hf := lz_s hf s10 es10
        obtain ⟨v11, ev11⟩ : ∃ z : Int32, z = x2 + (1 : Int32) := ⟨_, rfl⟩
        have hf := lz_s hf v11 ev11
        refine lv_iinc (v := v11) (lv' := [(2, .int v11), (0, .ref (hMo 99)), (1, .int p1)]) hx hb dX11_road_53 hl (k := 2) rfl (by rw [ev11]; rfl) (by decide) rfl (fun ls hl => ?_)
        refine lv_goto (tgt := 39) hx hb dX11_road_56 (by decide) ?_
        exact ih v11 s10 H locs ls hf hP hD hS (lv_sub hl [1, 2, 0] rfl)
  have hen : entryFrame m args 3 = entryFrame m (([.ref (hMo 99), .int p1] : List Value).toArray) 3 := by rw [hargs]
  have hl := lv_entry ([.ref (hMo 99), .int p1]) (n := 3) (Nat.le_of_ble_eq_true rfl)
  rw [hen, lg_entry_eq]
  generalize (lg_sl ([.ref (hMo 99), .int p1]) ++ List.replicate (3 - (lg_sl ([.ref (hMo 99), .int p1])).length) Slot.unset).toArray = ls at hl ⊢
  have hl : lv_has ls 3 [(0, .ref (hMo 99)), (1, .int p1)] := hl
  unfold f_X11_road at hf
  obtain ⟨H, hHe⟩ : ∃ z, z = s.heap := ⟨_, rfl⟩
  obtain ⟨locs, hLe⟩ : ∃ z : List Loc, z = [] := ⟨_, rfl⟩
  rw [← hLe]
  have hS : va_S A s.heap H locs := by rw [hHe, hLe]; exact hS
  have hP : va_P D vwCl (wMo K hMo sMo) H := by rw [hHe]; exact hP
  have hgo : W p l e (headSpec wz_X11_road r_X11_road).room s m args below meth c H locs 0 0 Q (F0 m 0 ls []) := by
    refine lv_aload_n hx hb dX11_road_0 rfl (lv_at hl 0 rfl) ?_
    obtain ⟨o1, go1, hf⟩ := bd_s hf
    refine rs_Vv (As := []) (rest := []) ⟨hx, hb, hml, hown, hts⟩ (c_X11_good l D K F hMo H.size sMo o1 go1) (cwV 0 hts (gcV_X11_good (mB18 _ (List.mem_of_getElem? (i := 7) rfl))) rfl rfl rfl hdV_X11_good ⟨Nat.le_of_ble_eq_true rfl, Nat.le_of_ble_eq_true rfl⟩) hK hP hD hS hA (va_recv hK hP (ci := 10) (q0 := 0) rfl o_Mo) rfl hl.1 rfl (Nat.le_of_ble_eq_true rfl) dX11_road_1 ⟨Nat.zero_le _, Nat.zero_le _⟩ (fun H locs hP hD hS => ?_)
    have hP : va_P D vwCl (wMo K hMo o1) H := hP
    have hD : va_D A (wMo K hMo o1) := hD
    refine lv_iload_n hx hb dX11_road_4 rfl (lv_at hl 1 rfl) ?_
    refine lv_iconst (v := (0 : Int32)) hx hb dX11_road_5 (by decide) ?_
    refine lv_aload_n hx hb dX11_road_6 rfl (lv_at hl 0 rfl) ?_
    refine va_get (D := D) (ci := 10) (v := .int (o1.1 2)) (C := RX11) (T := TX11) (N := 41) hx hb hts iX11 hown hK hP 0 o_Mo rfl 2 (by decide) (htl _ (mB7 _ (List.mem_of_getElem? (i := 8) rfl))) (fun _ h9 => h9) rfl dX11_road_7 ?_
    obtain ⟨o2, go2, hf⟩ := bd_s hf
    refine ro_Si (As := [.int p1, .int (0 : Int32), .int (o1.1 2)]) (rest := []) ⟨hx, hb, hml, hown, hts⟩ (c_X11_in l D K F p1 (0 : Int32) (o1.1 2) o2 go2) (va_cwS 3 hts (gcS_X11_in (mB18 _ (List.mem_of_getElem? (i := 12) rfl))) rfl rfl rfl hdS_X11_in ⟨Nat.le_of_ble_eq_true rfl, Nat.le_of_ble_eq_true rfl⟩) hK hP hS va_Pnil rfl hl.1 rfl (Nat.le_of_ble_eq_true rfl) dX11_road_10 ⟨Nat.zero_le _, Nat.zero_le _⟩ (fun H locs hP hS => ?_)
    refine lv_if_ne (tgt := 22) hx hb dX11_road_13 (by decide) (fun c3 => ?_) (fun c3 => ?_)
    · have hf := it_f hf c3
      refine lv_aload_n hx hb dX11_road_22 rfl (lv_at hl 0 rfl) ?_
      refine lv_iconst (v := (0 : Int32)) hx hb dX11_road_23 (by decide) ?_
      refine va_put (D := D) (ci := 10) (v := .int (0 : Int32)) (ty := .int) (C := RX11) (T := TX11) (N := 41) hx hb hts iX11 tyX11 tyX11_ok nmX11 hown hK hP hD hS 0 o_Mo rfl 2 (by decide) (htl _ (mB7 _ (List.mem_of_getElem? (i := 8) rfl))) (fun _ h9 => h9) rfl (by decide +kernel) rfl rfl (Nat.le_of_ble_eq_true rfl) dX11_road_24 (fun H locs hP hD hS => ?_)
      have hP := cvP si_Mo_2 hP
      have hD := cvD si_Mo_2 hD
      obtain ⟨s4, es4⟩ : ∃ z, z = sI o1 2 (0 : Int32) := ⟨_, rfl⟩
      have hP : va_P D vwCl (wMo K hMo s4) H := by rw [es4]; exact hP
      have hD : va_D A (wMo K hMo s4) := by rw [es4]; exact hD
      have hf := lz_s hf s4 es4
      refine lv_aload_n hx hb dX11_road_27 rfl (lv_at hl 0 rfl) ?_
      refine lv_iconst (v := (0 : Int32)) hx hb dX11_road_28 (by decide) ?_
      refine va_put (D := D) (ci := 10) (v := .int (0 : Int32)) (ty := .int) (C := RX11) (T := TX11) (N := 41) hx hb hts iX11 tyX11 tyX11_ok nmX11 hown hK hP hD hS 0 o_Mo rfl 9 (by decide) (htl _ (mB17 _ (List.mem_of_getElem? (i := 22) rfl))) (fun _ h9 => h9) rfl (by decide +kernel) rfl rfl (Nat.le_of_ble_eq_true rfl) dX11_road_29 (fun H locs hP hD hS => ?_)
      have hP := cvP si_Mo_9 hP
      have hD := cvD si_Mo_9 hD
      obtain ⟨s5, es5⟩ : ∃ z, z = sI s4 9 (0 : Int32) := ⟨_, rfl⟩
      have hP : va_P D vwCl (wMo K hMo s5) H := by rw [es5]; exact hP
      have hD : va_D A (wMo K hMo s5) := by rw [es5]; exact hD
      have hf := lz_s hf s5 es5
      refine lv_aload_n hx hb dX11_road_32 rfl (lv_at hl 0 rfl) ?_
      refine lv_iconst (v := (0 : Int32)) hx hb dX11_road_33 (by decide) ?_
      refine va_put (D := D) (ci := 10) (v := .int (0 : Int32)) (ty := .boolean) (C := RX11) (T := TX11) (N := 41) hx hb hts iX11 tyX11 tyX11_ok nmX11 hown hK hP hD hS 0 o_Mo rfl 13 (by decide) (htl _ (mB17 _ (List.mem_of_getElem? (i := 23) rfl))) (fun _ h9 => h9) rfl (by decide +kernel) rfl rfl (Nat.le_of_ble_eq_true rfl) dX11_road_34 (fun H locs hP hD hS => ?_)
      have hP := cvP si_Mo_13 hP
      have hD := cvD si_Mo_13 hD
      obtain ⟨s6, es6⟩ : ∃ z, z = sI s5 13 (0 : Int32) := ⟨_, rfl⟩
      have hP : va_P D vwCl (wMo K hMo s6) H := by rw [es6]; exact hP
      have hD : va_D A (wMo K hMo s6) := by rw [es6]; exact hD
      have hf := lz_s hf s6 es6
      refine lv_iconst (v := (0 : Int32)) hx hb dX11_road_37 (by decide) ?_
      refine lv_istore_n (lv' := [(2, .int (0 : Int32)), (0, .ref (hMo 99)), (1, .int p1)]) hx hb dX11_road_38 rfl hl (by decide) rfl (fun ls hl => ?_)
      exact w39 F (0 : Int32) s6 H locs ls hf hP hD hS (lv_sub hl [1, 2, 0] rfl)
    · have hf := it_t hf c3
      refine lv_aload_n hx hb dX11_road_16 rfl (lv_at hl 0 rfl) ?_
      refine lv_iconst (v := (2 : Int32)) hx hb dX11_road_17 (by decide) ?_
      obtain ⟨o7, go7, hf⟩ := bd_s hf
      refine rs_Vi (As := [.int (2 : Int32)]) (rest := []) ⟨hx, hb, hml, hown, hts⟩ (c_X11_no l D K F hMo H.size o1 (2 : Int32) o7 go7) (cwV 1 hts (gcV_X11_no (mB18 _ (List.mem_of_getElem? (i := 15) rfl))) rfl rfl rfl hdV_X11_no ⟨Nat.le_of_ble_eq_true rfl, Nat.le_of_ble_eq_true rfl⟩) hK hP hD hS hA (va_recv hK hP (ci := 10) (q0 := 0) rfl o_Mo) rfl hl.1 rfl (Nat.le_of_ble_eq_true rfl) dX11_road_18 ⟨Nat.zero_le _, Nat.zero_le _⟩ (fun H locs hP hD hS => ?_)
      have hP : va_P D vwCl (wMo K hMo o7.2) H := hP
      have hD : va_D A (wMo K hMo o7.2) := hD
      have e9 := Option.some.inj hf
      rw [hQ]
      exact W.iret (v := o7.1) hx hb hr (fun t ht hW => ⟨⟨o7.1, o7.2, rfl, ⟨pr1 e9, pr2 e9⟩, ⟨by rw [ht]; exact hP, va_K.moved hW.alike hK, hD⟩⟩, hS.F ht⟩) hS.2.2 dX11_road_21
  rw [hHe] at hgo
  exact hgo

def wz_X11_fault : List Cond := .code yX11_fault cX11_fault 1 (some .int) :: wsL_law
abbrev r_X11_fault : Room := { frames := 0, cells := 0, slots := 0, locals := 0 }
set_option maxHeartbeats 4000000 in
set_option maxRecDepth 100000 in
theorem c_X11_fault (l : Launch) (D : va_G) (K : Nat → ClassId) (F : Nat) (hMo : Nat → Nat) (sz : Nat) (sMo : MS) (res : Int32 × MS) (hf : f_X11_fault F sMo = some res) : Met l yX11_fault wz_X11_fault r_X11_fault (va_Pc [.ref (hMo 99)] (PW D K (wMo K hMo sMo) sz)) (va_Qi (fun r u => r = res.1 ∧ u = res.2) (fun u t => BW D K (va_A (wMo K hMo sMo) sz) (wMo K hMo u) t) (va_A (wMo K hMo sMo) sz)) 0 0 (va_A (wMo K hMo sMo) sz) := by
  refine Met.ofW (cc := cX11_fault) (maxL := 1) (ret := (some .int)) (by decide) rfl ?_
  intro p e s m args below meth c s₁ B hml hv
  obtain ⟨hargs, hsz, hP, hK, hD0⟩ := hv
  have hx := B.exec
  have hb := B.bytes
  have hr := B.returns
  have hts := atoms_spec (ws := wz_X11_fault) B.pre
  have htl : ∀ w ∈ wsL_law, w.before args s = true := fun w h => hts w (List.mem_cons_of_mem _ h)
  have hown : s.vm.findClass RX11 = some m.cls := findClass_of_methodNamed B.named
  have hlocks := B.notSynchronized
  subst hsz
  have hD := hD0.self (sz := s.heap.size)
  generalize hAe : va_A (wMo K hMo sMo) s.heap.size = A at hD ⊢
  have hA : ∀ q : Nat, s.heap.size ≤ q → A q := fun q h => by rw [← hAe]; exact Or.inr h
  have hS : va_S A s.heap s.heap [] := va_S.rf
  have iX11 : ∀ w ∈ wsX110, w ∈ wz_X11_fault := fun w h => List.mem_cons_of_mem _ (inlX11 w h)
  suffices hgo : ∀ Q : State → Prop, Q = MQ below (va_Qi (fun r u => r = res.1 ∧ u = res.2) (fun u t => BW D K A (wMo K hMo u) t) A) args s 0 0 A → W p l e (headSpec wz_X11_fault r_X11_fault).room s m args below meth c s.heap [] 0 0 Q (entryFrame m args 1) from hgo _ rfl
  intro Q hQ
  have hen : entryFrame m args 1 = entryFrame m (([.ref (hMo 99)] : List Value).toArray) 1 := by rw [hargs]
  have hl := lv_entry ([.ref (hMo 99)]) (n := 1) (Nat.le_of_ble_eq_true rfl)
  rw [hen, lg_entry_eq]
  generalize (lg_sl ([.ref (hMo 99)]) ++ List.replicate (1 - (lg_sl ([.ref (hMo 99)])).length) Slot.unset).toArray = ls at hl ⊢
  have hl : lv_has ls 1 [(0, .ref (hMo 99))] := hl
  unfold f_X11_fault at hf
  obtain ⟨H, hHe⟩ : ∃ z, z = s.heap := ⟨_, rfl⟩
  obtain ⟨locs, hLe⟩ : ∃ z : List Loc, z = [] := ⟨_, rfl⟩
  rw [← hLe]
  have hS : va_S A s.heap H locs := by rw [hHe, hLe]; exact hS
  have hP : va_P D vwCl (wMo K hMo sMo) H := by rw [hHe]; exact hP
  have hgo : W p l e (headSpec wz_X11_fault r_X11_fault).room s m args below meth c H locs 0 0 Q (F0 m 0 ls []) := by
    refine lv_aload_n hx hb dX11_fault_0 rfl (lv_at hl 0 rfl) ?_
    refine lv_iconst (v := (0 : Int32)) hx hb dX11_fault_1 (by decide) ?_
    refine va_put (D := D) (ci := 10) (v := .int (0 : Int32)) (ty := .int) (C := RX11) (T := TX11) (N := 41) hx hb hts iX11 tyX11 tyX11_ok nmX11 hown hK hP hD hS 0 o_Mo rfl 0 (by decide) (htl _ (mB7 _ (List.mem_of_getElem? (i := 7) rfl))) (fun _ h9 => h9) rfl (by decide +kernel) rfl rfl (Nat.le_of_ble_eq_true rfl) dX11_fault_2 (fun H locs hP hD hS => ?_)
    have hP := cvP si_Mo_0 hP
    have hD := cvD si_Mo_0 hD
    obtain ⟨s1, es1⟩ : ∃ z, z = sI sMo 0 (0 : Int32) := ⟨_, rfl⟩
    have hP : va_P D vwCl (wMo K hMo s1) H := by rw [es1]; exact hP
    have hD : va_D A (wMo K hMo s1) := by rw [es1]; exact hD
    have hf := lz_s hf s1 es1
    refine lv_aload_n hx hb dX11_fault_5 rfl (lv_at hl 0 rfl) ?_
    refine va_get (D := D) (ci := 10) (v := .int (s1.1 9)) (C := RX11) (T := TX11) (N := 41) hx hb hts iX11 hown hK hP 0 o_Mo rfl 9 (by decide) (htl _ (mB17 _ (List.mem_of_getElem? (i := 22) rfl))) (fun _ h9 => h9) rfl dX11_fault_6 ?_
    have e9 := Option.some.inj hf
    rw [hQ]
    exact W.iret (v := (s1.1 9)) hx hb hr (fun t ht hW => ⟨⟨(s1.1 9), s1, rfl, ⟨pr1 e9, pr2 e9⟩, ⟨by rw [ht]; exact hP, va_K.moved hW.alike hK, hD⟩⟩, hS.F ht⟩) hS.2.2 dX11_fault_9
  rw [hHe] at hgo
  exact hgo

def wz_X11_where : List Cond := .code yX11_where cX11_where 1 (some .int) :: wsL_law
abbrev r_X11_where : Room := { frames := 0, cells := 0, slots := 0, locals := 0 }
set_option maxHeartbeats 4000000 in
set_option maxRecDepth 100000 in
theorem c_X11_where (l : Launch) (D : va_G) (K : Nat → ClassId) (F : Nat) (hMo : Nat → Nat) (sz : Nat) (sMo : MS) (res : Int32 × MS) (hf : f_X11_where F sMo = some res) : Met l yX11_where wz_X11_where r_X11_where (va_Pc [.ref (hMo 99)] (PW D K (wMo K hMo sMo) sz)) (va_Qi (fun r u => r = res.1 ∧ u = res.2) (fun u t => BW D K (va_A (wMo K hMo sMo) sz) (wMo K hMo u) t) (va_A (wMo K hMo sMo) sz)) 0 0 (va_A (wMo K hMo sMo) sz) := by
  refine Met.ofW (cc := cX11_where) (maxL := 1) (ret := (some .int)) (by decide) rfl ?_
  intro p e s m args below meth c s₁ B hml hv
  obtain ⟨hargs, hsz, hP, hK, hD0⟩ := hv
  have hx := B.exec
  have hb := B.bytes
  have hr := B.returns
  have hts := atoms_spec (ws := wz_X11_where) B.pre
  have htl : ∀ w ∈ wsL_law, w.before args s = true := fun w h => hts w (List.mem_cons_of_mem _ h)
  have hown : s.vm.findClass RX11 = some m.cls := findClass_of_methodNamed B.named
  have hlocks := B.notSynchronized
  subst hsz
  have hD := hD0.self (sz := s.heap.size)
  generalize hAe : va_A (wMo K hMo sMo) s.heap.size = A at hD ⊢
  have hA : ∀ q : Nat, s.heap.size ≤ q → A q := fun q h => by rw [← hAe]; exact Or.inr h
  have hS : va_S A s.heap s.heap [] := va_S.rf
  have iX11 : ∀ w ∈ wsX110, w ∈ wz_X11_where := fun w h => List.mem_cons_of_mem _ (inlX11 w h)
  suffices hgo : ∀ Q : State → Prop, Q = MQ below (va_Qi (fun r u => r = res.1 ∧ u = res.2) (fun u t => BW D K A (wMo K hMo u) t) A) args s 0 0 A → W p l e (headSpec wz_X11_where r_X11_where).room s m args below meth c s.heap [] 0 0 Q (entryFrame m args 1) from hgo _ rfl
  intro Q hQ
  have hen : entryFrame m args 1 = entryFrame m (([.ref (hMo 99)] : List Value).toArray) 1 := by rw [hargs]
  have hl := lv_entry ([.ref (hMo 99)]) (n := 1) (Nat.le_of_ble_eq_true rfl)
  rw [hen, lg_entry_eq]
  generalize (lg_sl ([.ref (hMo 99)]) ++ List.replicate (1 - (lg_sl ([.ref (hMo 99)])).length) Slot.unset).toArray = ls at hl ⊢
  have hl : lv_has ls 1 [(0, .ref (hMo 99))] := hl
  unfold f_X11_where at hf
  obtain ⟨H, hHe⟩ : ∃ z, z = s.heap := ⟨_, rfl⟩
  obtain ⟨locs, hLe⟩ : ∃ z : List Loc, z = [] := ⟨_, rfl⟩
  rw [← hLe]
  have hS : va_S A s.heap H locs := by rw [hHe, hLe]; exact hS
  have hP : va_P D vwCl (wMo K hMo sMo) H := by rw [hHe]; exact hP
  have hgo : W p l e (headSpec wz_X11_where r_X11_where).room s m args below meth c H locs 0 0 Q (F0 m 0 ls []) := by
    refine lv_aload_n hx hb dX11_where_0 rfl (lv_at hl 0 rfl) ?_
    refine lv_iconst (v := (0 : Int32)) hx hb dX11_where_1 (by decide) ?_
    refine va_put (D := D) (ci := 10) (v := .int (0 : Int32)) (ty := .int) (C := RX11) (T := TX11) (N := 41) hx hb hts iX11 tyX11 tyX11_ok nmX11 hown hK hP hD hS 0 o_Mo rfl 0 (by decide) (htl _ (mB7 _ (List.mem_of_getElem? (i := 7) rfl))) (fun _ h9 => h9) rfl (by decide +kernel) rfl rfl (Nat.le_of_ble_eq_true rfl) dX11_where_2 (fun H locs hP hD hS => ?_)
    have hP := cvP si_Mo_0 hP
    have hD := cvD si_Mo_0 hD
    obtain ⟨s1, es1⟩ : ∃ z, z = sI sMo 0 (0 : Int32) := ⟨_, rfl⟩
    have hP : va_P D vwCl (wMo K hMo s1) H := by rw [es1]; exact hP
    have hD : va_D A (wMo K hMo s1) := by rw [es1]; exact hD
    have hf := lz_s hf s1 es1
    refine lv_aload_n hx hb dX11_where_5 rfl (lv_at hl 0 rfl) ?_
    refine va_get (D := D) (ci := 10) (v := .int (s1.1 11)) (C := RX11) (T := TX11) (N := 41) hx hb hts iX11 hown hK hP 0 o_Mo rfl 11 (by decide) (htl _ (mB18 _ (List.mem_of_getElem? (i := 11) rfl))) (fun _ h9 => h9) rfl dX11_where_6 ?_
    refine lv_iconst (v := (4 : Int32)) hx hb dX11_where_9 (by decide) ?_
    refine lv_icmp_ne (tgt := 20) hx hb dX11_where_10 (by decide) (fun c2 => ?_) (fun c2 => ?_)
    · have hf := it_f hf c2
      refine lv_iconst (v := (-1 : Int32)) hx hb dX11_where_20 (by decide) ?_
      have e9 := Option.some.inj hf
      rw [hQ]
      exact W.iret (v := (-1 : Int32)) hx hb hr (fun t ht hW => ⟨⟨(-1 : Int32), s1, rfl, ⟨pr1 e9, pr2 e9⟩, ⟨by rw [ht]; exact hP, va_K.moved hW.alike hK, hD⟩⟩, hS.F ht⟩) hS.2.2 dX11_where_21
    · have hf := it_t hf c2
      refine lv_aload_n hx hb dX11_where_13 rfl (lv_at hl 0 rfl) ?_
      refine va_get (D := D) (ci := 10) (v := .int (s1.1 10)) (C := RX11) (T := TX11) (N := 41) hx hb hts iX11 hown hK hP 0 o_Mo rfl 10 (by decide) (htl _ (mB6 _ (List.mem_of_getElem? (i := 1) rfl))) (fun _ h9 => h9) rfl dX11_where_14 ?_
      refine lv_goto (tgt := 21) hx hb dX11_where_17 (by decide) ?_
      have e9 := Option.some.inj hf
      rw [hQ]
      exact W.iret (v := (s1.1 10)) hx hb hr (fun t ht hW => ⟨⟨(s1.1 10), s1, rfl, ⟨pr1 e9, pr2 e9⟩, ⟨by rw [ht]; exact hP, va_K.moved hW.alike hK, hD⟩⟩, hS.F ht⟩) hS.2.2 dX11_where_21
  rw [hHe] at hgo
  exact hgo

def wz_X11_isPlace : List Cond := .code yX11_isPlace cX11_isPlace 2 (some .boolean) :: wsL_law
abbrev r_X11_isPlace : Room := { frames := 1, cells := 0, slots := 0, locals := 22 }
set_option maxHeartbeats 4000000 in
set_option maxRecDepth 100000 in
theorem c_X11_isPlace (l : Launch) (D : va_G) (K : Nat → ClassId) (F : Nat) (hMo : Nat → Nat) (sMo : MS) (p1 : Int32) (res : Int32) (hf : f_X11_isPlace F sMo p1 = some res) : Met l yX11_isPlace wz_X11_isPlace r_X11_isPlace (va_Pc [.ref (hMo 99), .int p1] (PR D K (wMo K hMo sMo))) (va_Qi (fun r (_ : Unit) => r = res) BN nOne) 0 0 nOne := by
  refine Met.ofW (cc := cX11_isPlace) (maxL := 2) (ret := (some .boolean)) (by decide) rfl ?_
  intro p e s m args below meth c s₁ B hml hv
  obtain ⟨hargs, hP, hK⟩ := hv
  have hx := B.exec
  have hb := B.bytes
  have hr := B.returns
  have hts := atoms_spec (ws := wz_X11_isPlace) B.pre
  have htl : ∀ w ∈ wsL_law, w.before args s = true := fun w h => hts w (List.mem_cons_of_mem _ h)
  have hown : s.vm.findClass RX11 = some m.cls := findClass_of_methodNamed B.named
  have hlocks := B.notSynchronized
  have hS : va_S nOne s.heap s.heap [] := va_S.rf
  have iX11 : ∀ w ∈ wsX110, w ∈ wz_X11_isPlace := fun w h => List.mem_cons_of_mem _ (inlX11 w h)
  suffices hgo : ∀ Q : State → Prop, Q = MQ below (va_Qi (fun r (_ : Unit) => r = res) BN nOne) args s 0 0 nOne → W p l e (headSpec wz_X11_isPlace r_X11_isPlace).room s m args below meth c s.heap [] 0 0 Q (entryFrame m args 2) from hgo _ rfl
  intro Q hQ
  have hen : entryFrame m args 2 = entryFrame m (([.ref (hMo 99), .int p1] : List Value).toArray) 2 := by rw [hargs]
  have hl := lv_entry ([.ref (hMo 99), .int p1]) (n := 2) (Nat.le_of_ble_eq_true rfl)
  rw [hen, lg_entry_eq]
  generalize (lg_sl ([.ref (hMo 99), .int p1]) ++ List.replicate (2 - (lg_sl ([.ref (hMo 99), .int p1])).length) Slot.unset).toArray = ls at hl ⊢
  have hl : lv_has ls 2 [(0, .ref (hMo 99)), (1, .int p1)] := hl
  unfold f_X11_isPlace at hf
  obtain ⟨H, hHe⟩ : ∃ z, z = s.heap := ⟨_, rfl⟩
  obtain ⟨locs, hLe⟩ : ∃ z : List Loc, z = [] := ⟨_, rfl⟩
  rw [← hLe]
  have hS : va_S nOne s.heap H locs := by rw [hHe, hLe]; exact hS
  have hP : va_P D vwCl (wMo K hMo sMo) H := by rw [hHe]; exact hP
  have hgo : W p l e (headSpec wz_X11_isPlace r_X11_isPlace).room s m args below meth c H locs 0 0 Q (F0 m 0 ls []) := by
    refine lv_aload_n hx hb dX11_isPlace_0 rfl (lv_at hl 0 rfl) ?_
    refine va_get (D := D) (ci := 10) (v := .int (sMo.1 14)) (C := RX11) (T := TX11) (N := 41) hx hb hts iX11 hown hK hP 0 o_Mo rfl 14 (by decide) (htl _ (mB18 _ (List.mem_of_getElem? (i := 4) rfl))) (fun _ h9 => h9) rfl dX11_isPlace_1 ?_
    refine lv_if_eq (tgt := 27) hx hb dX11_isPlace_4 (by decide) (fun c1 => ?_) (fun c1 => ?_)
    · have hf := it_t hf c1
      refine lv_iconst (v := (0 : Int32)) hx hb dX11_isPlace_27 (by decide) ?_
      have e9 := Option.some.inj hf
      rw [hQ]
      exact W.zret (v := (0 : Int32)) hx hb hr rfl (fun t ht hW => ⟨⟨(0 : Int32), (), rfl, e9, trivial⟩, hS.F ht⟩) hS.2.2 dX11_isPlace_28
    · have hf := it_f hf c1
      refine lv_iload_n hx hb dX11_isPlace_7 rfl (lv_at hl 1 rfl) ?_
      refine lv_iconst (v := (0 : Int32)) hx hb dX11_isPlace_8 (by decide) ?_
      refine lv_aload_n hx hb dX11_isPlace_9 rfl (lv_at hl 0 rfl) ?_
      refine va_get (D := D) (ci := 10) (v := .ref (hMo 15)) (C := RX11) (T := TX11) (N := 41) hx hb hts iX11 hown hK hP 0 o_Mo rfl 15 (by decide) (htl _ (mB6 _ (List.mem_of_getElem? (i := 3) rfl))) (fun _ h9 => h9) rfl dX11_isPlace_10 ?_
      refine lv_iconst (v := (5 : Int32)) hx hb dX11_isPlace_13 (by decide) ?_
      obtain ⟨g2, hf⟩ := gd_s hf
      refine va_iald hx hb hK hP 3 0 (f := sMo.2.2.1 15) a_Mo_15 rfl (vpb_in g2) dX11_isPlace_14 ?_
      refine lv_topi (fun v3 ev3 => ?_)
      have hf := lz_s hf v3 ev3
      refine lv_iconst (v := (1 : Int32)) hx hb dX11_isPlace_15 (by decide) ?_
      refine lv_isub hx hb dX11_isPlace_16 ?_
      obtain ⟨o4, go4, hf⟩ := bd_s hf
      refine ro_Si (As := [.int p1, .int (0 : Int32), .int (v3 - (1 : Int32))]) (rest := []) ⟨hx, hb, hml, hown, hts⟩ (c_X11_in l D K F p1 (0 : Int32) (v3 - (1 : Int32)) o4 go4) (va_cwS 3 hts (gcS_X11_in (mB18 _ (List.mem_of_getElem? (i := 12) rfl))) rfl rfl rfl hdS_X11_in ⟨Nat.le_of_ble_eq_true rfl, Nat.le_of_ble_eq_true rfl⟩) hK hP hS va_Pnil rfl hl.1 rfl (Nat.le_of_ble_eq_true rfl) dX11_isPlace_17 ⟨Nat.zero_le _, Nat.zero_le _⟩ (fun H locs hP hS => ?_)
      refine lv_if_eq (tgt := 27) hx hb dX11_isPlace_20 (by decide) (fun c5 => ?_) (fun c5 => ?_)
      · have hf := it_t hf c5
        refine lv_iconst (v := (0 : Int32)) hx hb dX11_isPlace_27 (by decide) ?_
        have e9 := Option.some.inj hf
        rw [hQ]
        exact W.zret (v := (0 : Int32)) hx hb hr rfl (fun t ht hW => ⟨⟨(0 : Int32), (), rfl, e9, trivial⟩, hS.F ht⟩) hS.2.2 dX11_isPlace_28
      · have hf := it_f hf c5
        refine lv_iconst (v := (1 : Int32)) hx hb dX11_isPlace_23 (by decide) ?_
        refine lv_goto (tgt := 28) hx hb dX11_isPlace_24 (by decide) ?_
        have e9 := Option.some.inj hf
        rw [hQ]
        exact W.zret (v := (1 : Int32)) hx hb hr rfl (fun t ht hW => ⟨⟨(1 : Int32), (), rfl, e9, trivial⟩, hS.F ht⟩) hS.2.2 dX11_isPlace_28
  rw [hHe] at hgo
  exact hgo

def wz_X11_isStation : List Cond := .code yX11_isStation cX11_isStation 2 (some .boolean) :: wsL_law
abbrev r_X11_isStation : Room := { frames := 1, cells := 0, slots := 0, locals := 22 }
set_option maxHeartbeats 4000000 in
set_option maxRecDepth 100000 in
theorem c_X11_isStation (l : Launch) (D : va_G) (K : Nat → ClassId) (F : Nat) (hMo : Nat → Nat) (sMo : MS) (p1 : Int32) (res : Int32) (hf : f_X11_isStation F sMo p1 = some res) : Met l yX11_isStation wz_X11_isStation r_X11_isStation (va_Pc [.ref (hMo 99), .int p1] (PR D K (wMo K hMo sMo))) (va_Qi (fun r (_ : Unit) => r = res) BN nOne) 0 0 nOne := by
  refine Met.ofW (cc := cX11_isStation) (maxL := 2) (ret := (some .boolean)) (by decide) rfl ?_
  intro p e s m args below meth c s₁ B hml hv
  obtain ⟨hargs, hP, hK⟩ := hv
  have hx := B.exec
  have hb := B.bytes
  have hr := B.returns
  have hts := atoms_spec (ws := wz_X11_isStation) B.pre
  have htl : ∀ w ∈ wsL_law, w.before args s = true := fun w h => hts w (List.mem_cons_of_mem _ h)
  have hown : s.vm.findClass RX11 = some m.cls := findClass_of_methodNamed B.named
  have hlocks := B.notSynchronized
  have hS : va_S nOne s.heap s.heap [] := va_S.rf
  have iX11 : ∀ w ∈ wsX110, w ∈ wz_X11_isStation := fun w h => List.mem_cons_of_mem _ (inlX11 w h)
  suffices hgo : ∀ Q : State → Prop, Q = MQ below (va_Qi (fun r (_ : Unit) => r = res) BN nOne) args s 0 0 nOne → W p l e (headSpec wz_X11_isStation r_X11_isStation).room s m args below meth c s.heap [] 0 0 Q (entryFrame m args 2) from hgo _ rfl
  intro Q hQ
  have hen : entryFrame m args 2 = entryFrame m (([.ref (hMo 99), .int p1] : List Value).toArray) 2 := by rw [hargs]
  have hl := lv_entry ([.ref (hMo 99), .int p1]) (n := 2) (Nat.le_of_ble_eq_true rfl)
  rw [hen, lg_entry_eq]
  generalize (lg_sl ([.ref (hMo 99), .int p1]) ++ List.replicate (2 - (lg_sl ([.ref (hMo 99), .int p1])).length) Slot.unset).toArray = ls at hl ⊢
  have hl : lv_has ls 2 [(0, .ref (hMo 99)), (1, .int p1)] := hl
  unfold f_X11_isStation at hf
  obtain ⟨H, hHe⟩ : ∃ z, z = s.heap := ⟨_, rfl⟩
  obtain ⟨locs, hLe⟩ : ∃ z : List Loc, z = [] := ⟨_, rfl⟩
  rw [← hLe]
  have hS : va_S nOne s.heap H locs := by rw [hHe, hLe]; exact hS
  have hP : va_P D vwCl (wMo K hMo sMo) H := by rw [hHe]; exact hP
  have hgo : W p l e (headSpec wz_X11_isStation r_X11_isStation).room s m args below meth c H locs 0 0 Q (F0 m 0 ls []) := by
    refine lv_aload_n hx hb dX11_isStation_0 rfl (lv_at hl 0 rfl) ?_
    refine va_get (D := D) (ci := 10) (v := .int (sMo.1 14)) (C := RX11) (T := TX11) (N := 41) hx hb hts iX11 hown hK hP 0 o_Mo rfl 14 (by decide) (htl _ (mB18 _ (List.mem_of_getElem? (i := 4) rfl))) (fun _ h9 => h9) rfl dX11_isStation_1 ?_
    refine lv_if_eq (tgt := 28) hx hb dX11_isStation_4 (by decide) (fun c1 => ?_) (fun c1 => ?_)
    · have hf := it_t hf c1
      refine lv_iconst (v := (0 : Int32)) hx hb dX11_isStation_28 (by decide) ?_
      have e9 := Option.some.inj hf
      rw [hQ]
      exact W.zret (v := (0 : Int32)) hx hb hr rfl (fun t ht hW => ⟨⟨(0 : Int32), (), rfl, e9, trivial⟩, hS.F ht⟩) hS.2.2 dX11_isStation_29
    · have hf := it_f hf c1
      refine lv_iload_n hx hb dX11_isStation_7 rfl (lv_at hl 1 rfl) ?_
      refine lv_iconst (v := (0 : Int32)) hx hb dX11_isStation_8 (by decide) ?_
      refine lv_aload_n hx hb dX11_isStation_9 rfl (lv_at hl 0 rfl) ?_
      refine va_get (D := D) (ci := 10) (v := .ref (hMo 15)) (C := RX11) (T := TX11) (N := 41) hx hb hts iX11 hown hK hP 0 o_Mo rfl 15 (by decide) (htl _ (mB6 _ (List.mem_of_getElem? (i := 3) rfl))) (fun _ h9 => h9) rfl dX11_isStation_10 ?_
      refine lv_bipush (v := (8 : Int32)) hx hb dX11_isStation_13 (by decide) ?_
      obtain ⟨g2, hf⟩ := gd_s hf
      refine va_iald hx hb hK hP 3 0 (f := sMo.2.2.1 15) a_Mo_15 rfl (vpb_in g2) dX11_isStation_15 ?_
      refine lv_topi (fun v3 ev3 => ?_)
      have hf := lz_s hf v3 ev3
      refine lv_iconst (v := (1 : Int32)) hx hb dX11_isStation_16 (by decide) ?_
      refine lv_isub hx hb dX11_isStation_17 ?_
      obtain ⟨o4, go4, hf⟩ := bd_s hf
      refine ro_Si (As := [.int p1, .int (0 : Int32), .int (v3 - (1 : Int32))]) (rest := []) ⟨hx, hb, hml, hown, hts⟩ (c_X11_in l D K F p1 (0 : Int32) (v3 - (1 : Int32)) o4 go4) (va_cwS 3 hts (gcS_X11_in (mB18 _ (List.mem_of_getElem? (i := 12) rfl))) rfl rfl rfl hdS_X11_in ⟨Nat.le_of_ble_eq_true rfl, Nat.le_of_ble_eq_true rfl⟩) hK hP hS va_Pnil rfl hl.1 rfl (Nat.le_of_ble_eq_true rfl) dX11_isStation_18 ⟨Nat.zero_le _, Nat.zero_le _⟩ (fun H locs hP hS => ?_)
      refine lv_if_eq (tgt := 28) hx hb dX11_isStation_21 (by decide) (fun c5 => ?_) (fun c5 => ?_)
      · have hf := it_t hf c5
        refine lv_iconst (v := (0 : Int32)) hx hb dX11_isStation_28 (by decide) ?_
        have e9 := Option.some.inj hf
        rw [hQ]
        exact W.zret (v := (0 : Int32)) hx hb hr rfl (fun t ht hW => ⟨⟨(0 : Int32), (), rfl, e9, trivial⟩, hS.F ht⟩) hS.2.2 dX11_isStation_29
      · have hf := it_f hf c5
        refine lv_iconst (v := (1 : Int32)) hx hb dX11_isStation_24 (by decide) ?_
        refine lv_goto (tgt := 29) hx hb dX11_isStation_25 (by decide) ?_
        have e9 := Option.some.inj hf
        rw [hQ]
        exact W.zret (v := (1 : Int32)) hx hb hr rfl (fun t ht hW => ⟨⟨(1 : Int32), (), rfl, e9, trivial⟩, hS.F ht⟩) hS.2.2 dX11_isStation_29
  rw [hHe] at hgo
  exact hgo
