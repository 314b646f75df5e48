def wz_X11_need : List Cond := .code yX11_need cX11_need 2 (some .int) :: wsL_law
abbrev r_X11_need : Room := { frames := 3, cells := 0, slots := 0, locals := 72 }
set_option maxHeartbeats 4000000 in
set_option maxRecDepth 100000 in
theorem c_X11_need (l : Launch) (D : va_G) (K : Nat → ClassId) (F : Nat) (hMo : Nat → Nat) (sz : Nat) (sMo : MS) (res : Int32 × MS) (hf : f_X11_need F sMo = some res) : Met l yX11_need wz_X11_need r_X11_need (va_Pc [.ref (hMo 99)] (PW D K (wMo K hMo sMo) sz)) (va_Qi (fun r u => r = res.1 ∧ u = res.2) (fun u t => BW D K (va_A (wMo K hMo sMo) sz) (wMo K hMo u) t) (va_A (wMo K hMo sMo) sz)) 0 0 (va_A (wMo K hMo sMo) sz) := by
  refine Met.ofW (cc := cX11_need) (maxL := 2) (ret := (some .int)) (by decide) rfl ?_
  intro p e s m args below meth c s₁ B hml hv
  obtain ⟨hargs, hsz, hP, hK, hD0⟩ := hv
  have hx := B.exec
  have hb := B.bytes
  have hr := B.returns
  have hts := atoms_spec (ws := wz_X11_need) B.pre
  have htl : ∀ w ∈ wsL_law, w.before args s = true := fun w h => hts w (List.mem_cons_of_mem _ h)
  have hown : s.vm.findClass RX11 = some m.cls := findClass_of_methodNamed B.named
  have hlocks := B.notSynchronized
  subst hsz
  have hD := hD0.self (sz := s.heap.size)
  generalize hAe : va_A (wMo K hMo sMo) s.heap.size = A at hD ⊢
  have hA : ∀ q : Nat, s.heap.size ≤ q → A q := fun q h => by rw [← hAe]; exact Or.inr h
  have hS : va_S A s.heap s.heap [] := va_S.rf
  have iX11 : ∀ w ∈ wsX110, w ∈ wz_X11_need := fun w h => List.mem_cons_of_mem _ (inlX11 w h)
  suffices hgo : ∀ Q : State → Prop, Q = MQ below (va_Qi (fun r u => r = res.1 ∧ u = res.2) (fun u t => BW D K A (wMo K hMo u) t) A) args s 0 0 A → W p l e (headSpec wz_X11_need r_X11_need).room s m args below meth c s.heap [] 0 0 Q (entryFrame m args 2) from hgo _ rfl
  intro Q hQ
  have w25 : ∀ (n : Nat), ∀ (x1 : Int32), ∀ (sMo : MS), ∀ (H : Heap) (locs : List Loc) (ls : Array Slot), f_X11_need_25 F n x1 sMo = some res → va_P D vwCl (wMo K hMo sMo) H → va_D A (wMo K hMo sMo) → va_S A s.heap H locs → lv_has ls 2 [(0, .ref (hMo 99)), (1, .int x1)] → W p l e (headSpec wz_X11_need r_X11_need).room s m args below meth c H locs 0 0 Q (F0 m 25 ls []) := by
    intro n
    induction n with
    | zero =>
      intro x1 sMo H locs ls hf
      exact absurd (show none = some res from hf) (fun h => nomatch h)
    | succ n ih =>
      intro x1 sMo H locs ls hf hP hD hS hl
      rw [f_X11_need_25] at hf
      refine lv_iload_n hx hb dX11_need_25 rfl (lv_at hl 1 rfl) ?_
      refine lv_aload_n hx hb dX11_need_26 rfl (lv_at hl 0 rfl) ?_
      refine va_get (D := D) (ci := 10) (v := .ref (hMo 15)) (C := RX11) (T := TX11) (N := 41) hx hb hts iX11 hown hK hP 0 o_Mo rfl 15 (by decide) (htl _ (mB6 _ (List.mem_of_getElem? (i := 3) rfl))) (fun _ h9 => h9) rfl dX11_need_27 ?_
      refine lv_iconst (v := (0 : Int32)) hx hb dX11_need_30 (by decide) ?_
      obtain ⟨g5, hf⟩ := gd_s hf
      refine va_iald hx hb hK hP 3 0 (f := sMo.2.2.1 15) a_Mo_15 rfl (vpb_in g5) dX11_need_31 ?_
      refine lv_topi (fun v6 ev6 => ?_)
      have hf := lz_s hf v6 ev6
      refine lv_icmp_gt (tgt := 53) hx hb dX11_need_32 (by decide) (fun c7 => ?_) (fun c7 => ?_)
      · have hf := it_t hf c7
        refine lv_bipush (v := (-2 : Int32)) hx hb dX11_need_53 (by decide) ?_
        have e9 := Option.some.inj hf
        rw [hQ]
        exact W.iret (v := (-2 : Int32)) hx hb hr (fun t ht hW => ⟨⟨(-2 : Int32), sMo, rfl, ⟨pr1 e9, pr2 e9⟩, ⟨by rw [ht]; exact hP, va_K.moved hW.alike hK, hD⟩⟩, hS.F ht⟩) hS.2.2 dX11_need_55
      · have hf := it_f hf c7
        refine lv_aload_n hx hb dX11_need_35 rfl (lv_at hl 0 rfl) ?_
        refine lv_iload_n hx hb dX11_need_36 rfl (lv_at hl 1 rfl) ?_
        obtain ⟨o8, go8, hf⟩ := bd_s hf
        refine ro_Vi (As := [.int x1]) (rest := []) ⟨hx, hb, hml, hown, hts⟩ (c_X11_leastFrom l D K F hMo sMo x1 o8 go8) (cwV 1 hts (gcV_X11_leastFrom (mB33 _ (List.mem_of_getElem? (i := 18) rfl))) rfl rfl rfl hdV_X11_leastFrom ⟨Nat.le_of_ble_eq_true rfl, Nat.le_of_ble_eq_true rfl⟩) hK hP hS hP (va_recv hK hP (ci := 10) (q0 := 0) rfl o_Mo) rfl hl.1 rfl (Nat.le_of_ble_eq_true rfl) dX11_need_37 ⟨Nat.zero_le _, Nat.zero_le _⟩ (fun H locs hP hS => ?_)
        refine lv_bipush (v := (-2 : Int32)) hx hb dX11_need_40 (by decide) ?_
        refine lv_icmp_eq (tgt := 47) hx hb dX11_need_42 (by decide) (fun c9 => ?_) (fun c9 => ?_)
        · have hf := it_t hf c9
          obtain ⟨v10, ev10⟩ : ∃ z : Int32, z = x1 + (1 : Int32) := ⟨_, rfl⟩
          have hf := lz_s hf v10 ev10
          refine lv_iinc (v := v10) (lv' := [(1, .int v10), (0, .ref (hMo 99))]) hx hb dX11_need_47 hl (k := 1) rfl (by rw [ev10]; rfl) (by decide) rfl (fun ls hl => ?_)
          refine lv_goto (tgt := 25) hx hb dX11_need_50 (by decide) ?_
          exact ih v10 sMo H locs ls hf hP hD hS (lv_sub hl [1, 0] rfl)
        · have hf := it_f hf c9
          refine lv_iload_n hx hb dX11_need_45 rfl (lv_at hl 1 rfl) ?_
          have e9 := Option.some.inj hf
          rw [hQ]
          exact W.iret (v := x1) hx hb hr (fun t ht hW => ⟨⟨x1, sMo, rfl, ⟨pr1 e9, pr2 e9⟩, ⟨by rw [ht]; exact hP, va_K.moved hW.alike hK, hD⟩⟩, hS.F ht⟩) hS.2.2 dX11_need_46
  have hen : entryFrame m args 2 = entryFrame m (([.ref (hMo 99)] : List Value).toArray) 2 := by rw [hargs]
  have hl := lv_entry ([.ref (hMo 99)]) (n := 2) (Nat.le_of_ble_eq_true rfl)
  rw [hen, lg_entry_eq]
  generalize (lg_sl ([.ref (hMo 99)]) ++ List.replicate (2 - (lg_sl ([.ref (hMo 99)])).length) Slot.unset).toArray = ls at hl ⊢
  have hl : lv_has ls 2 [(0, .ref (hMo 99))] := hl
  unfold f_X11_need at hf
  obtain ⟨H, hHe⟩ : ∃ z, z = s.heap := ⟨_, rfl⟩
  obtain ⟨locs, hLe⟩ : ∃ z : List Loc, z = [] := ⟨_, rfl⟩
  rw [← hLe]
  have hS : va_S A s.heap H locs := by rw [hHe, hLe]; exact hS
  have hP : va_P D vwCl (wMo K hMo sMo) H := by rw [hHe]; exact hP
  have hgo : W p l e (headSpec wz_X11_need r_X11_need).room s m args below meth c H locs 0 0 Q (F0 m 0 ls []) := by
    refine lv_aload_n hx hb dX11_need_0 rfl (lv_at hl 0 rfl) ?_
    obtain ⟨o1, go1, hf⟩ := bd_s hf
    refine rs_Vv (As := []) (rest := []) ⟨hx, hb, hml, hown, hts⟩ (c_X11_good l D K F hMo H.size sMo o1 go1) (cwV 0 hts (gcV_X11_good (mB18 _ (List.mem_of_getElem? (i := 7) rfl))) rfl rfl rfl hdV_X11_good ⟨Nat.le_of_ble_eq_true rfl, Nat.le_of_ble_eq_true rfl⟩) hK hP hD hS hA (va_recv hK hP (ci := 10) (q0 := 0) rfl o_Mo) rfl hl.1 rfl (Nat.le_of_ble_eq_true rfl) dX11_need_1 ⟨Nat.zero_le _, Nat.zero_le _⟩ (fun H locs hP hD hS => ?_)
    have hP : va_P D vwCl (wMo K hMo o1) H := hP
    have hD : va_D A (wMo K hMo o1) := hD
    refine lv_aload_n hx hb dX11_need_4 rfl (lv_at hl 0 rfl) ?_
    refine va_get (D := D) (ci := 10) (v := .int (o1.1 14)) (C := RX11) (T := TX11) (N := 41) hx hb hts iX11 hown hK hP 0 o_Mo rfl 14 (by decide) (htl _ (mB18 _ (List.mem_of_getElem? (i := 4) rfl))) (fun _ h9 => h9) rfl dX11_need_5 ?_
    refine lv_if_ne (tgt := 17) hx hb dX11_need_8 (by decide) (fun c2 => ?_) (fun c2 => ?_)
    · have hf := it_f hf c2
      refine lv_aload_n hx hb dX11_need_17 rfl (lv_at hl 0 rfl) ?_
      refine lv_iconst (v := (1 : Int32)) hx hb dX11_need_18 (by decide) ?_
      refine lv_iconst (v := (-1 : Int32)) hx hb dX11_need_19 (by decide) ?_
      obtain ⟨o3, go3, hf⟩ := bd_s hf
      refine rs_Vv (As := [.int (1 : Int32), .int (-1 : Int32)]) (rest := []) ⟨hx, hb, hml, hown, hts⟩ (c_X11_layPlans l D K F hMo H.size o1 (1 : Int32) (-1 : Int32) o3 go3) (cwV 2 hts (gcV_X11_layPlans (mB33 _ (List.mem_of_getElem? (i := 13) rfl))) rfl rfl rfl hdV_X11_layPlans ⟨Nat.le_of_ble_eq_true rfl, Nat.le_of_ble_eq_true rfl⟩) hK hP hD hS hA (va_recv hK hP (ci := 10) (q0 := 0) rfl o_Mo) rfl hl.1 rfl (Nat.le_of_ble_eq_true rfl) dX11_need_20 ⟨Nat.zero_le _, Nat.zero_le _⟩ (fun H locs hP hD hS => ?_)
      have hP : va_P D vwCl (wMo K hMo o3) H := hP
      have hD : va_D A (wMo K hMo o3) := hD
      refine lv_iconst (v := (0 : Int32)) hx hb dX11_need_23 (by decide) ?_
      refine lv_istore_n (lv' := [(1, .int (0 : Int32)), (0, .ref (hMo 99))]) hx hb dX11_need_24 rfl hl (by decide) rfl (fun ls hl => ?_)
      exact w25 F (0 : Int32) o3 H locs ls hf hP hD hS (lv_sub hl [1, 0] rfl)
    · have hf := it_t hf c2
      refine lv_aload_n hx hb dX11_need_11 rfl (lv_at hl 0 rfl) ?_
      refine lv_iconst (v := (1 : Int32)) hx hb dX11_need_12 (by decide) ?_
      obtain ⟨o4, go4, hf⟩ := bd_s hf
      refine rs_Vi (As := [.int (1 : Int32)]) (rest := []) ⟨hx, hb, hml, hown, hts⟩ (c_X11_no l D K F hMo H.size o1 (1 : Int32) o4 go4) (cwV 1 hts (gcV_X11_no (mB18 _ (List.mem_of_getElem? (i := 15) rfl))) rfl rfl rfl hdV_X11_no ⟨Nat.le_of_ble_eq_true rfl, Nat.le_of_ble_eq_true rfl⟩) hK hP hD hS hA (va_recv hK hP (ci := 10) (q0 := 0) rfl o_Mo) rfl hl.1 rfl (Nat.le_of_ble_eq_true rfl) dX11_need_13 ⟨Nat.zero_le _, Nat.zero_le _⟩ (fun H locs hP hD hS => ?_)
      have hP : va_P D vwCl (wMo K hMo o4.2) H := hP
      have hD : va_D A (wMo K hMo o4.2) := hD
      have e9 := Option.some.inj hf
      rw [hQ]
      exact W.iret (v := o4.1) hx hb hr (fun t ht hW => ⟨⟨o4.1, o4.2, rfl, ⟨pr1 e9, pr2 e9⟩, ⟨by rw [ht]; exact hP, va_K.moved hW.alike hK, hD⟩⟩, hS.F ht⟩) hS.2.2 dX11_need_16
  rw [hHe] at hgo
  exact hgo

def wz_X11_leastBy : List Cond := .code yX11_leastBy cX11_leastBy 9 (some .int) :: wsL_law
abbrev r_X11_leastBy : Room := { frames := 2, cells := 0, slots := 0, locals := 43 }
set_option maxHeartbeats 4000000 in
set_option maxRecDepth 100000 in
theorem c_X11_leastBy (l : Launch) (D : va_G) (K : Nat → ClassId) (F : Nat) (hMo : Nat → Nat) (sMo : MS) (p1 : Int32) (p2 : Int32) (p3 : Int32) (res : Int32) (hf : f_X11_leastBy F sMo p1 p2 p3 = some res) : Met l yX11_leastBy wz_X11_leastBy r_X11_leastBy (va_Pc [.ref (hMo 99), .int p1, .int p2, .int p3] (PR D K (wMo K hMo sMo))) (va_Qi (fun r (_ : Unit) => r = res) BN nOne) 0 0 nOne := by
  refine Met.ofW (cc := cX11_leastBy) (maxL := 9) (ret := (some .int)) (by decide) rfl ?_
  intro p e s m args below meth c s₁ B hml hv
  obtain ⟨hargs, hP, hK⟩ := hv
  have hx := B.exec
  have hb := B.bytes
  have hr := B.returns
  have hts := atoms_spec (ws := wz_X11_leastBy) B.pre
  have htl : ∀ w ∈ wsL_law, w.before args s = true := fun w h => hts w (List.mem_cons_of_mem _ h)
  have hown : s.vm.findClass RX11 = some m.cls := findClass_of_methodNamed B.named
  have hlocks := B.notSynchronized
  have hS : va_S nOne s.heap s.heap [] := va_S.rf
  have iX11 : ∀ w ∈ wsX110, w ∈ wz_X11_leastBy := fun w h => List.mem_cons_of_mem _ (inlX11 w h)
  suffices hgo : ∀ Q : State → Prop, Q = MQ below (va_Qi (fun r (_ : Unit) => r = res) BN nOne) args s 0 0 nOne → W p l e (headSpec wz_X11_leastBy r_X11_leastBy).room s m args below meth c s.heap [] 0 0 Q (entryFrame m args 9) from hgo _ rfl
  intro Q hQ
  have w150 : ∀ (k8 : Int32 → Int32 → Option Int32), (∀ (x4 : Int32), ∀ (x5 : Int32), ∀ (H : Heap) (locs : List Loc) (ls : Array Slot), k8 x4 x5 = some res → va_P D vwCl (wMo K hMo sMo) H → va_S nOne s.heap H locs → lv_has ls 9 [(0, .ref (hMo 99)), (1, .int p1), (2, .int p2), (3, .int p3), (4, .int x4), (5, .int x5)] → W p l e (headSpec wz_X11_leastBy r_X11_leastBy).room s m args below meth c H locs 0 0 Q (F0 m 8 ls [])) → ∀ (x4 : Int32), ∀ (x5 : Int32), ∀ (H : Heap) (locs : List Loc) (ls : Array Slot), f_X11_leastBy_150 F sMo p1 p2 p3 k8 x4 x5 = some res → va_P D vwCl (wMo K hMo sMo) H → va_S nOne s.heap H locs → lv_has ls 9 [(0, .ref (hMo 99)), (1, .int p1), (2, .int p2), (3, .int p3), (4, .int x4), (5, .int x5)] → W p l e (headSpec wz_X11_leastBy r_X11_leastBy).room s m args below meth c H locs 0 0 Q (F0 m 150 ls []) := by
    intro k8 hk8 x4 x5 H locs ls hf hP hS hl
    unfold f_X11_leastBy_150 at hf
    obtain ⟨v20, ev20⟩ : ∃ z : Int32, z = x5 + (1 : Int32) := ⟨_, rfl⟩
    have hf := lz_s hf v20 ev20
    refine lv_iinc (v := v20) (lv' := [(5, .int v20), (0, .ref (hMo 99)), (1, .int p1), (2, .int p2), (3, .int p3), (4, .int x4)]) hx hb dX11_leastBy_150 hl (k := 5) rfl (by rw [ev20]; rfl) (by decide) rfl (fun ls hl => ?_)
    refine lv_goto (tgt := 8) hx hb dX11_leastBy_153 (by decide) ?_
    exact hk8 x4 v20 H locs ls hf hP hS (lv_sub hl [1, 2, 3, 4, 5, 0] rfl)
  have w148 : ∀ (k8 : Int32 → Int32 → Option Int32), (∀ (x4 : Int32), ∀ (x5 : Int32), ∀ (H : Heap) (locs : List Loc) (ls : Array Slot), k8 x4 x5 = some res → va_P D vwCl (wMo K hMo sMo) H → va_S nOne s.heap H locs → lv_has ls 9 [(0, .ref (hMo 99)), (1, .int p1), (2, .int p2), (3, .int p3), (4, .int x4), (5, .int x5)] → W p l e (headSpec wz_X11_leastBy r_X11_leastBy).room s m args below meth c H locs 0 0 Q (F0 m 8 ls [])) → ∀ (x5 : Int32), ∀ (y0 : Int32), ∀ (H : Heap) (locs : List Loc) (ls : Array Slot), f_X11_leastBy_148 F sMo p1 p2 p3 k8 x5 y0 = some res → va_P D vwCl (wMo K hMo sMo) H → va_S nOne s.heap H locs → lv_has ls 9 [(0, .ref (hMo 99)), (1, .int p1), (2, .int p2), (3, .int p3), (5, .int x5)] → W p l e (headSpec wz_X11_leastBy r_X11_leastBy).room s m args below meth c H locs 0 0 Q (F0 m 148 ls [.int y0]) := by
    intro k8 hk8 x5 y0 H locs ls hf hP hS hl
    unfold f_X11_leastBy_148 at hf
    refine lv_istore (lv' := [(4, .int y0), (0, .ref (hMo 99)), (1, .int p1), (2, .int p2), (3, .int p3), (5, .int x5)]) hx hb dX11_leastBy_148 hl (by decide) rfl (fun ls hl => ?_)
    exact w150 k8 hk8 y0 x5 H locs ls hf hP hS (lv_sub hl [1, 2, 3, 4, 0, 5] rfl)
  have w132 : ∀ (k8 : Int32 → Int32 → Option Int32), (∀ (x4 : Int32), ∀ (x5 : Int32), ∀ (H : Heap) (locs : List Loc) (ls : Array Slot), k8 x4 x5 = some res → va_P D vwCl (wMo K hMo sMo) H → va_S nOne s.heap H locs → lv_has ls 9 [(0, .ref (hMo 99)), (1, .int p1), (2, .int p2), (3, .int p3), (4, .int x4), (5, .int x5)] → W p l e (headSpec wz_X11_leastBy r_X11_leastBy).room s m args below meth c H locs 0 0 Q (F0 m 8 ls [])) → ∀ (x4 : Int32), ∀ (x5 : Int32), ∀ (y0 : Int32), ∀ (H : Heap) (locs : List Loc) (ls : Array Slot), f_X11_leastBy_132 F sMo p1 p2 p3 k8 x4 x5 y0 = some res → va_P D vwCl (wMo K hMo sMo) H → va_S nOne s.heap H locs → lv_has ls 9 [(0, .ref (hMo 99)), (1, .int p1), (2, .int p2), (3, .int p3), (4, .int x4), (5, .int x5)] → W p l e (headSpec wz_X11_leastBy r_X11_leastBy).room s m args below meth c H locs 0 0 Q (F0 m 132 ls [.int y0]) := by
    intro k8 hk8 x4 x5 y0 H locs ls hf hP hS hl
    unfold f_X11_leastBy_132 at hf
    refine lv_istore (lv' := [(8, .int y0), (0, .ref (hMo 99)), (1, .int p1), (2, .int p2), (3, .int p3), (4, .int x4), (5, .int x5)]) hx hb dX11_leastBy_132 hl (by decide) rfl (fun ls hl => ?_)
    refine lv_iload hx hb dX11_leastBy_134 (lv_at hl 0 rfl) ?_
    refine lv_iload hx hb dX11_leastBy_136 (lv_at hl 5 rfl) ?_
    refine lv_icmp_ge (tgt := 146) hx hb dX11_leastBy_138 (by decide) (fun c19 => ?_) (fun c19 => ?_)
    · have hf := it_t hf c19
      refine lv_iload hx hb dX11_leastBy_146 (lv_at hl 5 rfl) ?_
      exact w148 k8 hk8 x5 x4 H locs ls hf hP hS (lv_sub hl [1, 2, 3, 4, 6] rfl)
    · have hf := it_f hf c19
      refine lv_iload hx hb dX11_leastBy_141 (lv_at hl 0 rfl) ?_
      refine lv_goto (tgt := 148) hx hb dX11_leastBy_143 (by decide) ?_
      exact w148 k8 hk8 x5 y0 H locs ls hf hP hS (lv_sub hl [1, 2, 3, 4, 6] rfl)
  have w131 : ∀ (k8 : Int32 → Int32 → Option Int32), (∀ (x4 : Int32), ∀ (x5 : Int32), ∀ (H : Heap) (locs : List Loc) (ls : Array Slot), k8 x4 x5 = some res → va_P D vwCl (wMo K hMo sMo) H → va_S nOne s.heap H locs → lv_has ls 9 [(0, .ref (hMo 99)), (1, .int p1), (2, .int p2), (3, .int p3), (4, .int x4), (5, .int x5)] → W p l e (headSpec wz_X11_leastBy r_X11_leastBy).room s m args below meth c H locs 0 0 Q (F0 m 8 ls [])) → ∀ (x4 : Int32), ∀ (x5 : Int32), ∀ (y0 : Int32), ∀ (y1 : Int32), ∀ (H : Heap) (locs : List Loc) (ls : Array Slot), f_X11_leastBy_131 F sMo p1 p2 p3 k8 x4 x5 y0 y1 = some res → va_P D vwCl (wMo K hMo sMo) H → va_S nOne s.heap H locs → lv_has ls 9 [(0, .ref (hMo 99)), (1, .int p1), (2, .int p2), (3, .int p3), (4, .int x4), (5, .int x5)] → W p l e (headSpec wz_X11_leastBy r_X11_leastBy).room s m args below meth c H locs 0 0 Q (F0 m 131 ls [.int y1, .int y0]) := by
    intro k8 hk8 x4 x5 y0 y1 H locs ls hf hP hS hl
    unfold f_X11_leastBy_131 at hf
    refine lv_iadd hx hb dX11_leastBy_131 ?_
    exact w132 k8 hk8 x4 x5 (y0 + y1) H locs ls hf hP hS (lv_sub hl [0, 1, 2, 3, 4, 5] rfl)
  have w77 : ∀ (k8 : Int32 → Int32 → Option Int32), (∀ (x4 : Int32), ∀ (x5 : Int32), ∀ (H : Heap) (locs : List Loc) (ls : Array Slot), k8 x4 x5 = some res → va_P D vwCl (wMo K hMo sMo) H → va_S nOne s.heap H locs → lv_has ls 9 [(0, .ref (hMo 99)), (1, .int p1), (2, .int p2), (3, .int p3), (4, .int x4), (5, .int x5)] → W p l e (headSpec wz_X11_leastBy r_X11_leastBy).room s m args below meth c H locs 0 0 Q (F0 m 8 ls [])) → ∀ (x4 : Int32), ∀ (x5 : Int32), ∀ (x6 : Int32), ∀ (y1 : Int32), ∀ (y2 : Int32), ∀ (H : Heap) (locs : List Loc) (ls : Array Slot), f_X11_leastBy_77 F sMo p1 p2 p3 k8 x4 x5 x6 y1 y2 = some res → va_P D vwCl (wMo K hMo sMo) H → va_S nOne s.heap H locs → lv_has ls 9 [(0, .ref (hMo 99)), (1, .int p1), (2, .int p2), (3, .int p3), (4, .int x4), (5, .int x5), (6, .int x6)] → W p l e (headSpec wz_X11_leastBy r_X11_leastBy).room s m args below meth c H locs 0 0 Q (F0 m 77 ls [.int y2, .int y1, .ref (hMo 25)]) := by
    intro k8 hk8 x4 x5 x6 y1 y2 H locs ls hf hP hS hl
    unfold f_X11_leastBy_77 at hf
    refine lv_imul hx hb dX11_leastBy_77 ?_
    refine lv_bipush (v := (41 : Int32)) hx hb dX11_leastBy_78 (by decide) ?_
    refine lv_iload_n hx hb dX11_leastBy_80 rfl (lv_at hl 1 rfl) ?_
    refine lv_iconst (v := (1 : Int32)) hx hb dX11_leastBy_81 (by decide) ?_
    refine lv_iadd hx hb dX11_leastBy_82 ?_
    refine lv_imul hx hb dX11_leastBy_83 ?_
    refine lv_iadd hx hb dX11_leastBy_84 ?_
    refine lv_topi (fun v11 ev11 => ?_)
    have hf := lz_s hf v11 ev11
    refine lv_iload hx hb dX11_leastBy_85 (lv_at hl 6 rfl) ?_
    refine lv_iadd hx hb dX11_leastBy_87 ?_
    obtain ⟨g12, hf⟩ := gd_s hf
    refine va_iald hx hb hK hP 11 0 (f := sMo.2.2.1 25) a_Mo_25 rfl (vpb_in g12) dX11_leastBy_88 ?_
    refine lv_topi (fun v13 ev13 => ?_)
    have hf := lz_s hf v13 ev13
    refine lv_istore (lv' := [(7, .int v13), (0, .ref (hMo 99)), (1, .int p1), (2, .int p2), (3, .int p3), (4, .int x4), (5, .int x5), (6, .int x6)]) hx hb dX11_leastBy_89 hl (by decide) rfl (fun ls hl => ?_)
    refine lv_iload hx hb dX11_leastBy_91 (lv_at hl 0 rfl) ?_
    refine lv_ldcw (v := (1000000000 : Int32)) hx hb hown (htl _ (mB33 _ (List.mem_of_getElem? (i := 17) rfl))) dX11_leastBy_93 ?_
    refine lv_icmp_ne (tgt := 105) hx hb dX11_leastBy_96 (by decide) (fun c14 => ?_) (fun c14 => ?_)
    · have hf := it_f hf c14
      refine lv_iload hx hb dX11_leastBy_105 (lv_at hl 0 rfl) ?_
      refine lv_iload hx hb dX11_leastBy_107 (lv_at hl 6 rfl) ?_
      refine lv_if_ne (tgt := 116) hx hb dX11_leastBy_109 (by decide) (fun c15 => ?_) (fun c15 => ?_)
      · have hf := it_f hf c15
        refine lv_iload hx hb dX11_leastBy_116 (lv_at hl 6 rfl) ?_
        refine lv_aload_n hx hb dX11_leastBy_118 rfl (lv_at hl 1 rfl) ?_
        refine lv_iload_n hx hb dX11_leastBy_119 rfl (lv_at hl 2 rfl) ?_
        obtain ⟨o16, go16, hf⟩ := bd_s hf
        refine ro_Vi (As := [.int p1]) (rest := [.int x5, .int v13]) ⟨hx, hb, hml, hown, hts⟩ (c_X11_priceAt l D K F hMo sMo p1 o16 go16) (cwV 1 hts (gcV_X11_priceAt (mB31 _ (List.mem_of_getElem? (i := 0) rfl))) rfl rfl rfl hdV_X11_priceAt ⟨Nat.le_of_ble_eq_true rfl, Nat.le_of_ble_eq_true rfl⟩) hK hP hS hP (va_recv hK hP (ci := 10) (q0 := 0) rfl o_Mo) rfl hl.1 rfl (Nat.le_of_ble_eq_true rfl) dX11_leastBy_120 ⟨Nat.zero_le _, Nat.zero_le _⟩ (fun H locs hP hS => ?_)
        refine lv_imul hx hb dX11_leastBy_123 ?_
        refine lv_aload_n hx hb dX11_leastBy_124 rfl (lv_at hl 1 rfl) ?_
        refine va_get (D := D) (ci := 10) (v := .ref (hMo 15)) (C := RX11) (T := TX11) (N := 41) hx hb hts iX11 hown hK hP 0 o_Mo rfl 15 (by decide) (htl _ (mB6 _ (List.mem_of_getElem? (i := 3) rfl))) (fun _ h9 => h9) rfl dX11_leastBy_125 ?_
        refine lv_iconst (v := (2 : Int32)) hx hb dX11_leastBy_128 (by decide) ?_
        obtain ⟨g17, hf⟩ := gd_s hf
        refine va_iald hx hb hK hP 3 0 (f := sMo.2.2.1 15) a_Mo_15 rfl (vpb_in g17) dX11_leastBy_129 ?_
        refine lv_topi (fun v18 ev18 => ?_)
        have hf := lz_s hf v18 ev18
        refine lv_iadd hx hb dX11_leastBy_130 ?_
        exact w131 k8 hk8 x4 x5 v13 ((x5 * o16) + v18) H locs ls hf hP hS (lv_sub hl [1, 2, 3, 4, 5, 6] rfl)
      · have hf := it_t hf c15
        refine lv_iconst (v := (0 : Int32)) hx hb dX11_leastBy_112 (by decide) ?_
        refine lv_goto (tgt := 131) hx hb dX11_leastBy_113 (by decide) ?_
        exact w131 k8 hk8 x4 x5 v13 (0 : Int32) H locs ls hf hP hS (lv_sub hl [1, 2, 3, 4, 5, 6] rfl)
    · have hf := it_t hf c14
      refine lv_ldcw (v := (1000000000 : Int32)) hx hb hown (htl _ (mB33 _ (List.mem_of_getElem? (i := 17) rfl))) dX11_leastBy_99 ?_
      refine lv_goto (tgt := 132) hx hb dX11_leastBy_102 (by decide) ?_
      exact w132 k8 hk8 x4 x5 (1000000000 : Int32) H locs ls hf hP hS (lv_sub hl [1, 2, 3, 4, 5, 6] rfl)
  have w38 : ∀ (k8 : Int32 → Int32 → Option Int32), (∀ (x4 : Int32), ∀ (x5 : Int32), ∀ (H : Heap) (locs : List Loc) (ls : Array Slot), k8 x4 x5 = some res → va_P D vwCl (wMo K hMo sMo) H → va_S nOne s.heap H locs → lv_has ls 9 [(0, .ref (hMo 99)), (1, .int p1), (2, .int p2), (3, .int p3), (4, .int x4), (5, .int x5)] → W p l e (headSpec wz_X11_leastBy r_X11_leastBy).room s m args below meth c H locs 0 0 Q (F0 m 8 ls [])) → ∀ (x4 : Int32), ∀ (x5 : Int32), ∀ (H : Heap) (locs : List Loc) (ls : Array Slot), f_X11_leastBy_38 F sMo p1 p2 p3 k8 x4 x5 = some res → va_P D vwCl (wMo K hMo sMo) H → va_S nOne s.heap H locs → lv_has ls 9 [(0, .ref (hMo 99)), (1, .int p1), (2, .int p2), (3, .int p3), (4, .int x4), (5, .int x5)] → W p l e (headSpec wz_X11_leastBy r_X11_leastBy).room s m args below meth c H locs 0 0 Q (F0 m 38 ls []) := by
    intro k8 hk8 x4 x5 H locs ls hf hP hS hl
    unfold f_X11_leastBy_38 at hf
    refine lv_iload_n hx hb dX11_leastBy_38 rfl (lv_at hl 3 rfl) ?_
    refine lv_iload hx hb dX11_leastBy_39 (lv_at hl 5 rfl) ?_
    refine lv_iadd hx hb dX11_leastBy_41 ?_
    refine lv_aload_n hx hb dX11_leastBy_42 rfl (lv_at hl 0 rfl) ?_
    refine lv_iload_n hx hb dX11_leastBy_43 rfl (lv_at hl 1 rfl) ?_
    obtain ⟨o8, go8, hf⟩ := bd_s hf
    refine ro_Vi (As := [.int p1]) (rest := [.int (p3 + x5)]) ⟨hx, hb, hml, hown, hts⟩ (c_X11_leg l D K F hMo sMo p1 o8 go8) (cwV 1 hts (gcV_X11_leg (mB27 _ (List.mem_of_getElem? (i := 15) rfl))) rfl rfl rfl hdV_X11_leg ⟨Nat.le_of_ble_eq_true rfl, Nat.le_of_ble_eq_true rfl⟩) hK hP hS hP (va_recv hK hP (ci := 10) (q0 := 0) rfl o_Mo) rfl hl.1 rfl (Nat.le_of_ble_eq_true rfl) dX11_leastBy_44 ⟨Nat.zero_le _, Nat.zero_le _⟩ (fun H locs hP hS => ?_)
    refine lv_isub hx hb dX11_leastBy_47 ?_
    refine lv_istore (lv' := [(6, .int ((p3 + x5) - o8)), (0, .ref (hMo 99)), (1, .int p1), (2, .int p2), (3, .int p3), (4, .int x4), (5, .int x5)]) hx hb dX11_leastBy_48 hl (by decide) rfl (fun ls hl => ?_)
    refine lv_iload hx hb dX11_leastBy_50 (lv_at hl 0 rfl) ?_
    refine lv_if_ge (tgt := 58) hx hb dX11_leastBy_52 (by decide) (fun c9 => ?_) (fun c9 => ?_)
    · have hf := it_t hf c9
      refine lv_aload_n hx hb dX11_leastBy_58 rfl (lv_at hl 1 rfl) ?_
      refine va_get (D := D) (ci := 10) (v := .ref (hMo 25)) (C := RX11) (T := TX11) (N := 41) hx hb hts iX11 hown hK hP 0 o_Mo rfl 25 (by decide) (htl _ (mB6 _ (List.mem_of_getElem? (i := 11) rfl))) (fun _ h9 => h9) rfl dX11_leastBy_59 ?_
      refine lv_sipush (v := (369 : Int32)) hx hb dX11_leastBy_62 (by decide) ?_
      refine lv_iload hx hb dX11_leastBy_65 (lv_at hl 6 rfl) ?_
      refine lv_if_ne (tgt := 74) hx hb dX11_leastBy_67 (by decide) (fun c10 => ?_) (fun c10 => ?_)
      · have hf := it_f hf c10
        refine lv_iload_n hx hb dX11_leastBy_74 rfl (lv_at hl 3 rfl) ?_
        refine lv_iconst (v := (1 : Int32)) hx hb dX11_leastBy_75 (by decide) ?_
        refine lv_isub hx hb dX11_leastBy_76 ?_
        exact w77 k8 hk8 x4 x5 ((p3 + x5) - o8) (369 : Int32) (p2 - (1 : Int32)) H locs ls hf hP hS (lv_sub hl [1, 2, 3, 4, 5, 6, 0] rfl)
      · have hf := it_t hf c10
        refine lv_iload_n hx hb dX11_leastBy_70 rfl (lv_at hl 3 rfl) ?_
        refine lv_goto (tgt := 77) hx hb dX11_leastBy_71 (by decide) ?_
        exact w77 k8 hk8 x4 x5 ((p3 + x5) - o8) (369 : Int32) p2 H locs ls hf hP hS (lv_sub hl [1, 2, 3, 4, 5, 6, 0] rfl)
    · have hf := it_f hf c9
      refine lv_goto (tgt := 150) hx hb dX11_leastBy_55 (by decide) ?_
      exact w150 k8 hk8 x4 x5 H locs ls hf hP hS (lv_sub hl [1, 2, 3, 4, 5, 6] rfl)
  have w8 : ∀ (n : Nat), ∀ (x4 : Int32), ∀ (x5 : Int32), ∀ (H : Heap) (locs : List Loc) (ls : Array Slot), f_X11_leastBy_8 F sMo p1 p2 p3 n x4 x5 = some res → va_P D vwCl (wMo K hMo sMo) H → va_S nOne s.heap H locs → lv_has ls 9 [(0, .ref (hMo 99)), (1, .int p1), (2, .int p2), (3, .int p3), (4, .int x4), (5, .int x5)] → W p l e (headSpec wz_X11_leastBy r_X11_leastBy).room s m args below meth c H locs 0 0 Q (F0 m 8 ls []) := by
    intro n
    induction n with
    | zero =>
      intro x4 x5 H locs ls hf
      exact absurd (show none = some res from hf) (fun h => nomatch h)
    | succ n ih =>
      intro x4 x5 H locs ls hf hP hS hl
      rw [f_X11_leastBy_8] at hf
      refine lv_iload_n hx hb dX11_leastBy_8 rfl (lv_at hl 3 rfl) ?_
      refine lv_iload hx hb dX11_leastBy_9 (lv_at hl 5 rfl) ?_
      refine lv_iadd hx hb dX11_leastBy_11 ?_
      refine lv_aload_n hx hb dX11_leastBy_12 rfl (lv_at hl 0 rfl) ?_
      refine va_get (D := D) (ci := 10) (v := .ref (hMo 15)) (C := RX11) (T := TX11) (N := 41) hx hb hts iX11 hown hK hP 0 o_Mo rfl 15 (by decide) (htl _ (mB6 _ (List.mem_of_getElem? (i := 3) rfl))) (fun _ h9 => h9) rfl dX11_leastBy_13 ?_
      refine lv_iconst (v := (0 : Int32)) hx hb dX11_leastBy_16 (by decide) ?_
      obtain ⟨g1, hf⟩ := gd_s hf
      refine va_iald hx hb hK hP 3 0 (f := sMo.2.2.1 15) a_Mo_15 rfl (vpb_in g1) dX11_leastBy_17 ?_
      refine lv_topi (fun v2 ev2 => ?_)
      have hf := lz_s hf v2 ev2
      refine lv_icmp_gt (tgt := 156) hx hb dX11_leastBy_18 (by decide) (fun c3 => ?_) (fun c3 => ?_)
      · have hf := it_t hf c3
        refine lv_iload hx hb dX11_leastBy_156 (lv_at hl 4 rfl) ?_
        have e9 := Option.some.inj hf
        rw [hQ]
        exact W.iret (v := x4) hx hb hr (fun t ht hW => ⟨⟨x4, (), rfl, e9, trivial⟩, hS.F ht⟩) hS.2.2 dX11_leastBy_158
      · have hf := it_f hf c3
        refine lv_iload hx hb dX11_leastBy_21 (lv_at hl 5 rfl) ?_
        refine lv_if_eq (tgt := 38) hx hb dX11_leastBy_23 (by decide) (fun c4 => ?_) (fun c4 => ?_)
        · have hf := it_t hf c4
          exact w38 (f_X11_leastBy_8 F sMo p1 p2 p3 n) ih x4 x5 H locs ls hf hP hS (lv_sub hl [0, 1, 2, 3, 4, 5] rfl)
        · have hf := it_f hf c4
          refine lv_iload_n hx hb dX11_leastBy_26 rfl (lv_at hl 2 rfl) ?_
          refine lv_if_le (tgt := 156) hx hb dX11_leastBy_27 (by decide) (fun c5 => ?_) (fun c5 => ?_)
          · have hf := it_t hf c5
            refine lv_iload hx hb dX11_leastBy_156 (lv_at hl 4 rfl) ?_
            have e9 := Option.some.inj hf
            rw [hQ]
            exact W.iret (v := x4) hx hb hr (fun t ht hW => ⟨⟨x4, (), rfl, e9, trivial⟩, hS.F ht⟩) hS.2.2 dX11_leastBy_158
          · have hf := it_f hf c5
            refine lv_aload_n hx hb dX11_leastBy_30 rfl (lv_at hl 0 rfl) ?_
            refine lv_iload_n hx hb dX11_leastBy_31 rfl (lv_at hl 1 rfl) ?_
            obtain ⟨o6, go6, hf⟩ := bd_s hf
            refine ro_Vi (As := [.int p1]) (rest := []) ⟨hx, hb, hml, hown, hts⟩ (c_X11_priceAt l D K F hMo sMo p1 o6 go6) (cwV 1 hts (gcV_X11_priceAt (mB31 _ (List.mem_of_getElem? (i := 0) rfl))) rfl rfl rfl hdV_X11_priceAt ⟨Nat.le_of_ble_eq_true rfl, Nat.le_of_ble_eq_true rfl⟩) hK hP hS hP (va_recv hK hP (ci := 10) (q0 := 0) rfl o_Mo) rfl hl.1 rfl (Nat.le_of_ble_eq_true rfl) dX11_leastBy_32 ⟨Nat.zero_le _, Nat.zero_le _⟩ (fun H locs hP hS => ?_)
            refine lv_if_le (tgt := 156) hx hb dX11_leastBy_35 (by decide) (fun c7 => ?_) (fun c7 => ?_)
            · have hf := it_t hf c7
              refine lv_iload hx hb dX11_leastBy_156 (lv_at hl 4 rfl) ?_
              have e9 := Option.some.inj hf
              rw [hQ]
              exact W.iret (v := x4) hx hb hr (fun t ht hW => ⟨⟨x4, (), rfl, e9, trivial⟩, hS.F ht⟩) hS.2.2 dX11_leastBy_158
            · have hf := it_f hf c7
              exact w38 (f_X11_leastBy_8 F sMo p1 p2 p3 n) ih x4 x5 H locs ls hf hP hS (lv_sub hl [0, 1, 2, 3, 4, 5] rfl)
  have hen : entryFrame m args 9 = entryFrame m (([.ref (hMo 99), .int p1, .int p2, .int p3] : List Value).toArray) 9 := by rw [hargs]
  have hl := lv_entry ([.ref (hMo 99), .int p1, .int p2, .int p3]) (n := 9) (Nat.le_of_ble_eq_true rfl)
  rw [hen, lg_entry_eq]
  generalize (lg_sl ([.ref (hMo 99), .int p1, .int p2, .int p3]) ++ List.replicate (9 - (lg_sl ([.ref (hMo 99), .int p1, .int p2, .int p3])).length) Slot.unset).toArray = ls at hl ⊢
  have hl : lv_has ls 9 [(0, .ref (hMo 99)), (1, .int p1), (2, .int p2), (3, .int p3)] := hl
  unfold f_X11_leastBy at hf
  obtain ⟨H, hHe⟩ : ∃ z, z = s.heap := ⟨_, rfl⟩
  obtain ⟨locs, hLe⟩ : ∃ z : List Loc, z = [] := ⟨_, rfl⟩
  rw [← hLe]
  have hS : va_S nOne s.heap H locs := by rw [hHe, hLe]; exact hS
  have hP : va_P D vwCl (wMo K hMo sMo) H := by rw [hHe]; exact hP
  have hgo : W p l e (headSpec wz_X11_leastBy r_X11_leastBy).room s m args below meth c H locs 0 0 Q (F0 m 0 ls []) := by
    refine lv_ldcw (v := (1000000000 : Int32)) hx hb hown (htl _ (mB33 _ (List.mem_of_getElem? (i := 17) rfl))) dX11_leastBy_0 ?_
    refine lv_istore (lv' := [(4, .int (1000000000 : Int32)), (0, .ref (hMo 99)), (1, .int p1), (2, .int p2), (3, .int p3)]) hx hb dX11_leastBy_3 hl (by decide) rfl (fun ls hl => ?_)
    refine lv_iconst (v := (0 : Int32)) hx hb dX11_leastBy_5 (by decide) ?_
    refine lv_istore (lv' := [(5, .int (0 : Int32)), (4, .int (1000000000 : Int32)), (0, .ref (hMo 99)), (1, .int p1), (2, .int p2), (3, .int p3)]) hx hb dX11_leastBy_6 hl (by decide) rfl (fun ls hl => ?_)
    exact w8 F (1000000000 : Int32) (0 : Int32) H locs ls hf hP hS (lv_sub hl [2, 3, 4, 5, 1, 0] rfl)
  rw [hHe] at hgo
  exact hgo

theorem gcV_X11_leastBy {T0 : Cond} {own : String} {i : Nat} (h : Cond.methodLink own i yX11_leastBy ∈ wsL_law) : GoodIn (T0 :: wsL_law) (wsV own i RX11 yX11_leastBy wz_X11_leastBy) := gV h (mB37 _ (List.mem_of_getElem? (i := 18) rfl)) (mB37 _ (List.mem_of_getElem? (i := 19) rfl)) (mB1 _ (List.mem_of_getElem? (i := 5) rfl)) (mB37 _ (List.mem_of_getElem? (i := 20) rfl))
theorem hdV_X11_leastBy : yX11_leastBy.cls = RX11 ∧ yX11_leastBy.cls ≠ "java/lang/invoke/MethodHandle" ∧ yX11_leastBy.cls ≠ "java/lang/invoke/VarHandle" ∧ (parseMethodDescriptor yX11_leastBy.desc).map (fun d => d.parameters.length) = some 3 := by decide +kernel
def wz_X11_within : List Cond := .code yX11_within cX11_within 5 (some .int) :: wsL_law
abbrev r_X11_within : Room := { frames := 3, cells := 0, slots := 0, locals := 71 }
set_option maxHeartbeats 4000000 in
set_option maxRecDepth 100000 in
theorem c_X11_within (l : Launch) (D : va_G) (K : Nat → ClassId) (F : Nat) (hMo : Nat → Nat) (sz : Nat) (sMo : MS) (p1 : Int32) (res : Int32 × MS) (hf : f_X11_within F p1 sMo = some res) : Met l yX11_within wz_X11_within r_X11_within (va_Pc [.ref (hMo 99), .int p1] (PW D K (wMo K hMo sMo) sz)) (va_Qi (fun r u => r = res.1 ∧ u = res.2) (fun u t => BW D K (va_A (wMo K hMo sMo) sz) (wMo K hMo u) t) (va_A (wMo K hMo sMo) sz)) 0 0 (va_A (wMo K hMo sMo) sz) := by
  refine Met.ofW (cc := cX11_within) (maxL := 5) (ret := (some .int)) (by decide) rfl ?_
  intro p e s m args below meth c s₁ B hml hv
  obtain ⟨hargs, hsz, hP, hK, hD0⟩ := hv
  have hx := B.exec
  have hb := B.bytes
  have hr := B.returns
  have hts := atoms_spec (ws := wz_X11_within) B.pre
  have htl : ∀ w ∈ wsL_law, w.before args s = true := fun w h => hts w (List.mem_cons_of_mem _ h)
  have hown : s.vm.findClass RX11 = some m.cls := findClass_of_methodNamed B.named
  have hlocks := B.notSynchronized
  subst hsz
  have hD := hD0.self (sz := s.heap.size)
  generalize hAe : va_A (wMo K hMo sMo) s.heap.size = A at hD ⊢
  have hA : ∀ q : Nat, s.heap.size ≤ q → A q := fun q h => by rw [← hAe]; exact Or.inr h
  have hS : va_S A s.heap s.heap [] := va_S.rf
  have iX11 : ∀ w ∈ wsX110, w ∈ wz_X11_within := fun w h => List.mem_cons_of_mem _ (inlX11 w h)
  suffices hgo : ∀ Q : State → Prop, Q = MQ below (va_Qi (fun r u => r = res.1 ∧ u = res.2) (fun u t => BW D K A (wMo K hMo u) t) A) args s 0 0 A → W p l e (headSpec wz_X11_within r_X11_within).room s m args below meth c s.heap [] 0 0 Q (entryFrame m args 5) from hgo _ rfl
  intro Q hQ
  have w161 : ∀ (sMo : MS), ∀ (H : Heap) (locs : List Loc) (ls : Array Slot), f_X11_within_161 F p1 sMo = some res → va_P D vwCl (wMo K hMo sMo) H → va_D A (wMo K hMo sMo) → va_S A s.heap H locs → lv_has ls 5 [(0, .ref (hMo 99)), (1, .int p1)] → W p l e (headSpec wz_X11_within r_X11_within).room s m args below meth c H locs 0 0 Q (F0 m 161 ls []) := by
    intro sMo H locs ls hf hP hD hS hl
    unfold f_X11_within_161 at hf
    refine lv_aload_n hx hb dX11_within_161 rfl (lv_at hl 0 rfl) ?_
    refine va_get (D := D) (ci := 10) (v := .ref (hMo 25)) (C := RX11) (T := TX11) (N := 41) hx hb hts iX11 hown hK hP 0 o_Mo rfl 25 (by decide) (htl _ (mB6 _ (List.mem_of_getElem? (i := 11) rfl))) (fun _ h9 => h9) rfl dX11_within_162 ?_
    refine lv_sipush (v := (369 : Int32)) hx hb dX11_within_165 (by decide) ?_
    refine lv_iload_n hx hb dX11_within_168 rfl (lv_at hl 1 rfl) ?_
    refine lv_imul hx hb dX11_within_169 ?_
    refine lv_aload_n hx hb dX11_within_170 rfl (lv_at hl 0 rfl) ?_
    refine va_get (D := D) (ci := 10) (v := .ref (hMo 15)) (C := RX11) (T := TX11) (N := 41) hx hb hts iX11 hown hK hP 0 o_Mo rfl 15 (by decide) (htl _ (mB6 _ (List.mem_of_getElem? (i := 3) rfl))) (fun _ h9 => h9) rfl dX11_within_171 ?_
    refine lv_iconst (v := (1 : Int32)) hx hb dX11_within_174 (by decide) ?_
    obtain ⟨g30, hf⟩ := gd_s hf
    refine va_iald hx hb hK hP 3 0 (f := sMo.2.2.1 15) a_Mo_15 rfl (vpb_in g30) dX11_within_175 ?_
    refine lv_topi (fun v31 ev31 => ?_)
    have hf := lz_s hf v31 ev31
    refine lv_iadd hx hb dX11_within_176 ?_
    obtain ⟨g32, hf⟩ := gd_s hf
    refine va_iald hx hb hK hP 11 0 (f := sMo.2.2.1 25) a_Mo_25 rfl (vpb_in g32) dX11_within_177 ?_
    refine lv_topi (fun v33 ev33 => ?_)
    have hf := lz_s hf v33 ev33
    refine lv_istore_n (lv' := [(2, .int v33), (0, .ref (hMo 99)), (1, .int p1)]) hx hb dX11_within_178 rfl hl (by decide) rfl (fun ls hl => ?_)
    refine lv_iload_n hx hb dX11_within_179 rfl (lv_at hl 0 rfl) ?_
    refine lv_ldcw (v := (1000000000 : Int32)) hx hb hown (htl _ (mB33 _ (List.mem_of_getElem? (i := 17) rfl))) dX11_within_180 ?_
    refine lv_icmp_ne (tgt := 191) hx hb dX11_within_183 (by decide) (fun c34 => ?_) (fun c34 => ?_)
    · have hf := it_f hf c34
      refine lv_iload_n hx hb dX11_within_191 rfl (lv_at hl 0 rfl) ?_
      have e9 := Option.some.inj hf
      rw [hQ]
      exact W.iret (v := v33) hx hb hr (fun t ht hW => ⟨⟨v33, sMo, rfl, ⟨pr1 e9, pr2 e9⟩, ⟨by rw [ht]; exact hP, va_K.moved hW.alike hK, hD⟩⟩, hS.F ht⟩) hS.2.2 dX11_within_192
    · have hf := it_t hf c34
      refine lv_bipush (v := (-2 : Int32)) hx hb dX11_within_186 (by decide) ?_
      refine lv_goto (tgt := 192) hx hb dX11_within_188 (by decide) ?_
      have e9 := Option.some.inj hf
      rw [hQ]
      exact W.iret (v := (-2 : Int32)) hx hb hr (fun t ht hW => ⟨⟨(-2 : Int32), sMo, rfl, ⟨pr1 e9, pr2 e9⟩, ⟨by rw [ht]; exact hP, va_K.moved hW.alike hK, hD⟩⟩, hS.F ht⟩) hS.2.2 dX11_within_192
  have w155 : ∀ (k92 : Int32 → MS → Option (Int32 × MS)), (∀ (x2 : Int32), ∀ (sMo : MS), ∀ (H : Heap) (locs : List Loc) (ls : Array Slot), k92 x2 sMo = some res → va_P D vwCl (wMo K hMo sMo) H → va_D A (wMo K hMo sMo) → va_S A s.heap H locs → lv_has ls 5 [(0, .ref (hMo 99)), (1, .int p1), (2, .int x2)] → W p l e (headSpec wz_X11_within r_X11_within).room s m args below meth c H locs 0 0 Q (F0 m 92 ls [])) → ∀ (x2 : Int32), ∀ (sMo : MS), ∀ (H : Heap) (locs : List Loc) (ls : Array Slot), f_X11_within_155 F p1 k92 x2 sMo = some res → va_P D vwCl (wMo K hMo sMo) H → va_D A (wMo K hMo sMo) → va_S A s.heap H locs → lv_has ls 5 [(0, .ref (hMo 99)), (1, .int p1), (2, .int x2)] → W p l e (headSpec wz_X11_within r_X11_within).room s m args below meth c H locs 0 0 Q (F0 m 155 ls []) := by
    intro k92 hk92 x2 sMo H locs ls hf hP hD hS hl
    unfold f_X11_within_155 at hf
    obtain ⟨v29, ev29⟩ : ∃ z : Int32, z = x2 + (-1 : Int32) := ⟨_, rfl⟩
    have hf := lz_s hf v29 ev29
    refine lv_iinc (v := v29) (lv' := [(2, .int v29), (0, .ref (hMo 99)), (1, .int p1)]) hx hb dX11_within_155 hl (k := 2) rfl (by rw [ev29]; rfl) (by decide) rfl (fun ls hl => ?_)
    refine lv_goto (tgt := 92) hx hb dX11_within_158 (by decide) ?_
    exact hk92 v29 sMo H locs ls hf hP hD hS (lv_sub hl [1, 2, 0] rfl)
  have w149 : ∀ (k98 : Int32 → Int32 → MS → Option (Int32 × MS)), (∀ (x2 : Int32), ∀ (x3 : Int32), ∀ (sMo : MS), ∀ (H : Heap) (locs : List Loc) (ls : Array Slot), k98 x2 x3 sMo = some res → va_P D vwCl (wMo K hMo sMo) H → va_D A (wMo K hMo sMo) → va_S A s.heap H locs → lv_has ls 5 [(0, .ref (hMo 99)), (1, .int p1), (2, .int x2), (3, .int x3)] → W p l e (headSpec wz_X11_within r_X11_within).room s m args below meth c H locs 0 0 Q (F0 m 98 ls [])) → ∀ (x2 : Int32), ∀ (x3 : Int32), ∀ (sMo : MS), ∀ (H : Heap) (locs : List Loc) (ls : Array Slot), f_X11_within_149 F p1 k98 x2 x3 sMo = some res → va_P D vwCl (wMo K hMo sMo) H → va_D A (wMo K hMo sMo) → va_S A s.heap H locs → lv_has ls 5 [(0, .ref (hMo 99)), (1, .int p1), (2, .int x2), (3, .int x3)] → W p l e (headSpec wz_X11_within r_X11_within).room s m args below meth c H locs 0 0 Q (F0 m 149 ls []) := by
    intro k98 hk98 x2 x3 sMo H locs ls hf hP hD hS hl
    unfold f_X11_within_149 at hf
    obtain ⟨v28, ev28⟩ : ∃ z : Int32, z = x3 + (1 : Int32) := ⟨_, rfl⟩
    have hf := lz_s hf v28 ev28
    refine lv_iinc (v := v28) (lv' := [(3, .int v28), (0, .ref (hMo 99)), (1, .int p1), (2, .int x2)]) hx hb dX11_within_149 hl (k := 3) rfl (by rw [ev28]; rfl) (by decide) rfl (fun ls hl => ?_)
    refine lv_goto (tgt := 98) hx hb dX11_within_152 (by decide) ?_
    exact hk98 x2 v28 sMo H locs ls hf hP hD hS (lv_sub hl [1, 2, 3, 0] rfl)
  have w106 : ∀ (k98 : Int32 → Int32 → MS → Option (Int32 × MS)), (∀ (x2 : Int32), ∀ (x3 : Int32), ∀ (sMo : MS), ∀ (H : Heap) (locs : List Loc) (ls : Array Slot), k98 x2 x3 sMo = some res → va_P D vwCl (wMo K hMo sMo) H → va_D A (wMo K hMo sMo) → va_S A s.heap H locs → lv_has ls 5 [(0, .ref (hMo 99)), (1, .int p1), (2, .int x2), (3, .int x3)] → W p l e (headSpec wz_X11_within r_X11_within).room s m args below meth c H locs 0 0 Q (F0 m 98 ls [])) → ∀ (n : Nat), ∀ (x2 : Int32), ∀ (x3 : Int32), ∀ (x4 : Int32), ∀ (sMo : MS), ∀ (H : Heap) (locs : List Loc) (ls : Array Slot), f_X11_within_106 F p1 k98 n x2 x3 x4 sMo = some res → va_P D vwCl (wMo K hMo sMo) H → va_D A (wMo K hMo sMo) → va_S A s.heap H locs → lv_has ls 5 [(0, .ref (hMo 99)), (1, .int p1), (2, .int x2), (3, .int x3), (4, .int x4)] → W p l e (headSpec wz_X11_within r_X11_within).room s m args below meth c H locs 0 0 Q (F0 m 106 ls []) := by
    intro k98 hk98 n
    induction n with
    | zero =>
      intro x2 x3 x4 sMo H locs ls hf
      exact absurd (show none = some res from hf) (fun h => nomatch h)
    | succ n ih =>
      intro x2 x3 x4 sMo H locs ls hf hP hD hS hl
      rw [f_X11_within_106] at hf
      refine lv_iload hx hb dX11_within_106 (lv_at hl 4 rfl) ?_
      refine lv_aload_n hx hb dX11_within_108 rfl (lv_at hl 0 rfl) ?_
      refine va_get (D := D) (ci := 10) (v := .ref (hMo 15)) (C := RX11) (T := TX11) (N := 41) hx hb hts iX11 hown hK hP 0 o_Mo rfl 15 (by decide) (htl _ (mB6 _ (List.mem_of_getElem? (i := 3) rfl))) (fun _ h9 => h9) rfl dX11_within_109 ?_
      refine lv_iconst (v := (0 : Int32)) hx hb dX11_within_112 (by decide) ?_
      obtain ⟨g20, hf⟩ := gd_s hf
      refine va_iald hx hb hK hP 3 0 (f := sMo.2.2.1 15) a_Mo_15 rfl (vpb_in g20) dX11_within_113 ?_
      refine lv_topi (fun v21 ev21 => ?_)
      have hf := lz_s hf v21 ev21
      refine lv_icmp_gt (tgt := 149) hx hb dX11_within_114 (by decide) (fun c22 => ?_) (fun c22 => ?_)
      · have hf := it_t hf c22
        exact w149 k98 hk98 x2 x3 sMo H locs ls hf hP hD hS (lv_sub hl [0, 1, 2, 3] rfl)
      · have hf := it_f hf c22
        refine lv_aload_n hx hb dX11_within_117 rfl (lv_at hl 0 rfl) ?_
        refine va_get (D := D) (ci := 10) (v := .ref (hMo 25)) (C := RX11) (T := TX11) (N := 41) hx hb hts iX11 hown hK hP 0 o_Mo rfl 25 (by decide) (htl _ (mB6 _ (List.mem_of_getElem? (i := 11) rfl))) (fun _ h9 => h9) rfl dX11_within_118 ?_
        refine lv_sipush (v := (369 : Int32)) hx hb dX11_within_121 (by decide) ?_
        refine lv_iload_n hx hb dX11_within_124 rfl (lv_at hl 3 rfl) ?_
        refine lv_imul hx hb dX11_within_125 ?_
        refine lv_bipush (v := (41 : Int32)) hx hb dX11_within_126 (by decide) ?_
        refine lv_iload_n hx hb dX11_within_128 rfl (lv_at hl 2 rfl) ?_
        refine lv_imul hx hb dX11_within_129 ?_
        refine lv_iadd hx hb dX11_within_130 ?_
        refine lv_iload hx hb dX11_within_131 (lv_at hl 4 rfl) ?_
        refine lv_iadd hx hb dX11_within_133 ?_
        refine lv_topi (fun v23 ev23 => ?_)
        have hf := lz_s hf v23 ev23
        refine lv_aload_n hx hb dX11_within_134 rfl (lv_at hl 0 rfl) ?_
        refine lv_iload_n hx hb dX11_within_135 rfl (lv_at hl 2 rfl) ?_
        refine lv_iload_n hx hb dX11_within_136 rfl (lv_at hl 3 rfl) ?_
        refine lv_iload hx hb dX11_within_137 (lv_at hl 4 rfl) ?_
        obtain ⟨o24, go24, hf⟩ := bd_s hf
        refine ro_Vi (As := [.int x2, .int x3, .int x4]) (rest := [.int v23, .ref (hMo 25)]) ⟨hx, hb, hml, hown, hts⟩ (c_X11_leastBy l D K F hMo sMo x2 x3 x4 o24 go24) (cwV 3 hts (gcV_X11_leastBy (mB37 _ (List.mem_of_getElem? (i := 17) rfl))) rfl rfl rfl hdV_X11_leastBy ⟨Nat.le_of_ble_eq_true rfl, Nat.le_of_ble_eq_true rfl⟩) hK hP hS hP (va_recv hK hP (ci := 10) (q0 := 0) rfl o_Mo) rfl hl.1 rfl (Nat.le_of_ble_eq_true rfl) dX11_within_139 ⟨Nat.zero_le _, Nat.zero_le _⟩ (fun H locs hP hS => ?_)
        obtain ⟨g25, hf⟩ := gd_s hf
        refine va_iast hx hb hK hP hD hS 11 0 (f := sMo.2.2.1 25) a_Mo_25 rfl (vpb_in g25) dX11_within_142 (fun H locs hP hD hS => ?_)
        have hP := cvP sa_Mo_25 hP
        have hD := cvD sa_Mo_25 hD
        obtain ⟨s26, es26⟩ : ∃ z, z = sA sMo 25 v23.toNatClampNeg o24 := ⟨_, rfl⟩
        have hP : va_P D vwCl (wMo K hMo s26) H := by rw [es26]; exact hP
        have hD : va_D A (wMo K hMo s26) := by rw [es26]; exact hD
        have hf := lz_s hf s26 es26
        obtain ⟨v27, ev27⟩ : ∃ z : Int32, z = x4 + (1 : Int32) := ⟨_, rfl⟩
        have hf := lz_s hf v27 ev27
        refine lv_iinc (v := v27) (lv' := [(4, .int v27), (0, .ref (hMo 99)), (1, .int p1), (2, .int x2), (3, .int x3)]) hx hb dX11_within_143 hl (k := 4) rfl (by rw [ev27]; rfl) (by decide) rfl (fun ls hl => ?_)
        refine lv_goto (tgt := 106) hx hb dX11_within_146 (by decide) ?_
        exact ih x2 x3 v27 s26 H locs ls hf hP hD hS (lv_sub hl [1, 2, 3, 4, 0] rfl)
  have w98 : ∀ (k92 : Int32 → MS → Option (Int32 × MS)), (∀ (x2 : Int32), ∀ (sMo : MS), ∀ (H : Heap) (locs : List Loc) (ls : Array Slot), k92 x2 sMo = some res → va_P D vwCl (wMo K hMo sMo) H → va_D A (wMo K hMo sMo) → va_S A s.heap H locs → lv_has ls 5 [(0, .ref (hMo 99)), (1, .int p1), (2, .int x2)] → W p l e (headSpec wz_X11_within r_X11_within).room s m args below meth c H locs 0 0 Q (F0 m 92 ls [])) → ∀ (n : Nat), ∀ (x2 : Int32), ∀ (x3 : Int32), ∀ (sMo : MS), ∀ (H : Heap) (locs : List Loc) (ls : Array Slot), f_X11_within_98 F p1 k92 n x2 x3 sMo = some res → va_P D vwCl (wMo K hMo sMo) H → va_D A (wMo K hMo sMo) → va_S A s.heap H locs → lv_has ls 5 [(0, .ref (hMo 99)), (1, .int p1), (2, .int x2), (3, .int x3)] → W p l e (headSpec wz_X11_within r_X11_within).room s m args below meth c H locs 0 0 Q (F0 m 98 ls []) := by
    intro k92 hk92 n
    induction n with
    | zero =>
      intro x2 x3 sMo H locs ls hf
      exact absurd (show none = some res from hf) (fun h => nomatch h)
    | succ n ih =>
      intro x2 x3 sMo H locs ls hf hP hD hS hl
      rw [f_X11_within_98] at hf
      refine lv_iload_n hx hb dX11_within_98 rfl (lv_at hl 3 rfl) ?_
      refine lv_iload_n hx hb dX11_within_99 rfl (lv_at hl 1 rfl) ?_
      refine lv_icmp_gt (tgt := 155) hx hb dX11_within_100 (by decide) (fun c19 => ?_) (fun c19 => ?_)
      · have hf := it_t hf c19
        exact w155 k92 hk92 x2 sMo H locs ls hf hP hD hS (lv_sub hl [0, 1, 2] rfl)
      · have hf := it_f hf c19
        refine lv_iconst (v := (0 : Int32)) hx hb dX11_within_103 (by decide) ?_
        refine lv_istore (lv' := [(4, .int (0 : Int32)), (0, .ref (hMo 99)), (1, .int p1), (2, .int x2), (3, .int x3)]) hx hb dX11_within_104 hl (by decide) rfl (fun ls hl => ?_)
        exact w106 (f_X11_within_98 F p1 k92 n) ih F x2 x3 (0 : Int32) sMo H locs ls hf hP hD hS (lv_sub hl [1, 2, 3, 4, 0] rfl)
  have w92 : ∀ (n : Nat), ∀ (x2 : Int32), ∀ (sMo : MS), ∀ (H : Heap) (locs : List Loc) (ls : Array Slot), f_X11_within_92 F p1 n x2 sMo = some res → va_P D vwCl (wMo K hMo sMo) H → va_D A (wMo K hMo sMo) → va_S A s.heap H locs → lv_has ls 5 [(0, .ref (hMo 99)), (1, .int p1), (2, .int x2)] → W p l e (headSpec wz_X11_within r_X11_within).room s m args below meth c H locs 0 0 Q (F0 m 92 ls []) := by
    intro n
    induction n with
    | zero =>
      intro x2 sMo H locs ls hf
      exact absurd (show none = some res from hf) (fun h => nomatch h)
    | succ n ih =>
      intro x2 sMo H locs ls hf hP hD hS hl
      rw [f_X11_within_92] at hf
      refine lv_iload_n hx hb dX11_within_92 rfl (lv_at hl 2 rfl) ?_
      refine lv_if_lt (tgt := 161) hx hb dX11_within_93 (by decide) (fun c18 => ?_) (fun c18 => ?_)
      · have hf := it_t hf c18
        exact w161 sMo H locs ls hf hP hD hS (lv_sub hl [0, 1] rfl)
      · have hf := it_f hf c18
        refine lv_iconst (v := (0 : Int32)) hx hb dX11_within_96 (by decide) ?_
        refine lv_istore_n (lv' := [(3, .int (0 : Int32)), (0, .ref (hMo 99)), (1, .int p1), (2, .int x2)]) hx hb dX11_within_97 rfl hl (by decide) rfl (fun ls hl => ?_)
        exact w98 (f_X11_within_92 F p1 n) ih F x2 (0 : Int32) sMo H locs ls hf hP hD hS (lv_sub hl [1, 2, 3, 0] rfl)
  have w85 : ∀ (sMo : MS), ∀ (H : Heap) (locs : List Loc) (ls : Array Slot), f_X11_within_85 F p1 sMo = some res → va_P D vwCl (wMo K hMo sMo) H → va_D A (wMo K hMo sMo) → va_S A s.heap H locs → lv_has ls 5 [(0, .ref (hMo 99)), (1, .int p1)] → W p l e (headSpec wz_X11_within r_X11_within).room s m args below meth c H locs 0 0 Q (F0 m 85 ls []) := by
    intro sMo H locs ls hf hP hD hS hl
    unfold f_X11_within_85 at hf
    refine lv_aload_n hx hb dX11_within_85 rfl (lv_at hl 0 rfl) ?_
    obtain ⟨o17, go17, hf⟩ := bd_s hf
    refine ro_Vi (As := []) (rest := []) ⟨hx, hb, hml, hown, hts⟩ (c_X11_lastStation l D K F hMo sMo o17 go17) (cwV 0 hts (gcV_X11_lastStation (mB28 _ (List.mem_of_getElem? (i := 11) rfl))) rfl rfl rfl hdV_X11_lastStation ⟨Nat.le_of_ble_eq_true rfl, Nat.le_of_ble_eq_true rfl⟩) hK hP hS hP (va_recv hK hP (ci := 10) (q0 := 0) rfl o_Mo) rfl hl.1 rfl (Nat.le_of_ble_eq_true rfl) dX11_within_86 ⟨Nat.zero_le _, Nat.zero_le _⟩ (fun H locs hP hS => ?_)
    refine lv_iconst (v := (1 : Int32)) hx hb dX11_within_89 (by decide) ?_
    refine lv_isub hx hb dX11_within_90 ?_
    refine lv_istore_n (lv' := [(2, .int (o17 - (1 : Int32))), (0, .ref (hMo 99)), (1, .int p1)]) hx hb dX11_within_91 rfl hl (by decide) rfl (fun ls hl => ?_)
    exact w92 F (o17 - (1 : Int32)) sMo H locs ls hf hP hD hS (lv_sub hl [1, 2, 0] rfl)
  have w79 : ∀ (k35 : Int32 → MS → Option (Int32 × MS)), (∀ (x2 : Int32), ∀ (sMo : MS), ∀ (H : Heap) (locs : List Loc) (ls : Array Slot), k35 x2 sMo = some res → va_P D vwCl (wMo K hMo sMo) H → va_D A (wMo K hMo sMo) → va_S A s.heap H locs → lv_has ls 5 [(0, .ref (hMo 99)), (1, .int p1), (2, .int x2)] → W p l e (headSpec wz_X11_within r_X11_within).room s m args below meth c H locs 0 0 Q (F0 m 35 ls [])) → ∀ (x2 : Int32), ∀ (sMo : MS), ∀ (H : Heap) (locs : List Loc) (ls : Array Slot), f_X11_within_79 F p1 k35 x2 sMo = some res → va_P D vwCl (wMo K hMo sMo) H → va_D A (wMo K hMo sMo) → va_S A s.heap H locs → lv_has ls 5 [(0, .ref (hMo 99)), (1, .int p1), (2, .int x2)] → W p l e (headSpec wz_X11_within r_X11_within).room s m args below meth c H locs 0 0 Q (F0 m 79 ls []) := by
    intro k35 hk35 x2 sMo H locs ls hf hP hD hS hl
    unfold f_X11_within_79 at hf
    obtain ⟨v16, ev16⟩ : ∃ z : Int32, z = x2 + (1 : Int32) := ⟨_, rfl⟩
    have hf := lz_s hf v16 ev16
    refine lv_iinc (v := v16) (lv' := [(2, .int v16), (0, .ref (hMo 99)), (1, .int p1)]) hx hb dX11_within_79 hl (k := 2) rfl (by rw [ev16]; rfl) (by decide) rfl (fun ls hl => ?_)
    refine lv_goto (tgt := 35) hx hb dX11_within_82 (by decide) ?_
    exact hk35 v16 sMo H locs ls hf hP hD hS (lv_sub hl [1, 2, 0] rfl)
  have w42 : ∀ (k35 : Int32 → MS → Option (Int32 × MS)), (∀ (x2 : Int32), ∀ (sMo : MS), ∀ (H : Heap) (locs : List Loc) (ls : Array Slot), k35 x2 sMo = some res → va_P D vwCl (wMo K hMo sMo) H → va_D A (wMo K hMo sMo) → va_S A s.heap H locs → lv_has ls 5 [(0, .ref (hMo 99)), (1, .int p1), (2, .int x2)] → W p l e (headSpec wz_X11_within r_X11_within).room s m args below meth c H locs 0 0 Q (F0 m 35 ls [])) → ∀ (n : Nat), ∀ (x2 : Int32), ∀ (x3 : Int32), ∀ (sMo : MS), ∀ (H : Heap) (locs : List Loc) (ls : Array Slot), f_X11_within_42 F p1 k35 n x2 x3 sMo = some res → va_P D vwCl (wMo K hMo sMo) H → va_D A (wMo K hMo sMo) → va_S A s.heap H locs → lv_has ls 5 [(0, .ref (hMo 99)), (1, .int p1), (2, .int x2), (3, .int x3)] → W p l e (headSpec wz_X11_within r_X11_within).room s m args below meth c H locs 0 0 Q (F0 m 42 ls []) := by
    intro k35 hk35 n
    induction n with
    | zero =>
      intro x2 x3 sMo H locs ls hf
      exact absurd (show none = some res from hf) (fun h => nomatch h)
    | succ n ih =>
      intro x2 x3 sMo H locs ls hf hP hD hS hl
      rw [f_X11_within_42] at hf
      refine lv_iload_n hx hb dX11_within_42 rfl (lv_at hl 3 rfl) ?_
      refine lv_aload_n hx hb dX11_within_43 rfl (lv_at hl 0 rfl) ?_
      refine va_get (D := D) (ci := 10) (v := .ref (hMo 15)) (C := RX11) (T := TX11) (N := 41) hx hb hts iX11 hown hK hP 0 o_Mo rfl 15 (by decide) (htl _ (mB6 _ (List.mem_of_getElem? (i := 3) rfl))) (fun _ h9 => h9) rfl dX11_within_44 ?_
      refine lv_iconst (v := (0 : Int32)) hx hb dX11_within_47 (by decide) ?_
      obtain ⟨g8, hf⟩ := gd_s hf
      refine va_iald hx hb hK hP 3 0 (f := sMo.2.2.1 15) a_Mo_15 rfl (vpb_in g8) dX11_within_48 ?_
      refine lv_topi (fun v9 ev9 => ?_)
      have hf := lz_s hf v9 ev9
      refine lv_icmp_gt (tgt := 79) hx hb dX11_within_49 (by decide) (fun c10 => ?_) (fun c10 => ?_)
      · have hf := it_t hf c10
        exact w79 k35 hk35 x2 sMo H locs ls hf hP hD hS (lv_sub hl [0, 1, 2] rfl)
      · have hf := it_f hf c10
        refine lv_aload_n hx hb dX11_within_52 rfl (lv_at hl 0 rfl) ?_
        refine va_get (D := D) (ci := 10) (v := .ref (hMo 25)) (C := RX11) (T := TX11) (N := 41) hx hb hts iX11 hown hK hP 0 o_Mo rfl 25 (by decide) (htl _ (mB6 _ (List.mem_of_getElem? (i := 11) rfl))) (fun _ h9 => h9) rfl dX11_within_53 ?_
        refine lv_sipush (v := (369 : Int32)) hx hb dX11_within_56 (by decide) ?_
        refine lv_iload_n hx hb dX11_within_59 rfl (lv_at hl 2 rfl) ?_
        refine lv_imul hx hb dX11_within_60 ?_
        refine lv_bipush (v := (41 : Int32)) hx hb dX11_within_61 (by decide) ?_
        refine lv_aload_n hx hb dX11_within_63 rfl (lv_at hl 0 rfl) ?_
        obtain ⟨o11, go11, hf⟩ := bd_s hf
        refine ro_Vi (As := []) (rest := [.int (41 : Int32), .int ((369 : Int32) * x2), .ref (hMo 25)]) ⟨hx, hb, hml, hown, hts⟩ (c_X11_lastStation l D K F hMo sMo o11 go11) (cwV 0 hts (gcV_X11_lastStation (mB28 _ (List.mem_of_getElem? (i := 11) rfl))) rfl rfl rfl hdV_X11_lastStation ⟨Nat.le_of_ble_eq_true rfl, Nat.le_of_ble_eq_true rfl⟩) hK hP hS hP (va_recv hK hP (ci := 10) (q0 := 0) rfl o_Mo) rfl hl.1 rfl (Nat.le_of_ble_eq_true rfl) dX11_within_64 ⟨Nat.zero_le _, Nat.zero_le _⟩ (fun H locs hP hS => ?_)
        refine lv_imul hx hb dX11_within_67 ?_
        refine lv_iadd hx hb dX11_within_68 ?_
        refine lv_iload_n hx hb dX11_within_69 rfl (lv_at hl 3 rfl) ?_
        refine lv_iadd hx hb dX11_within_70 ?_
        refine lv_topi (fun v12 ev12 => ?_)
        have hf := lz_s hf v12 ev12
        refine lv_iconst (v := (0 : Int32)) hx hb dX11_within_71 (by decide) ?_
        obtain ⟨g13, hf⟩ := gd_s hf
        refine va_iast hx hb hK hP hD hS 11 0 (f := sMo.2.2.1 25) a_Mo_25 rfl (vpb_in g13) dX11_within_72 (fun H locs hP hD hS => ?_)
        have hP := cvP sa_Mo_25 hP
        have hD := cvD sa_Mo_25 hD
        obtain ⟨s14, es14⟩ : ∃ z, z = sA sMo 25 v12.toNatClampNeg (0 : Int32) := ⟨_, rfl⟩
        have hP : va_P D vwCl (wMo K hMo s14) H := by rw [es14]; exact hP
        have hD : va_D A (wMo K hMo s14) := by rw [es14]; exact hD
        have hf := lz_s hf s14 es14
        obtain ⟨v15, ev15⟩ : ∃ z : Int32, z = x3 + (1 : Int32) := ⟨_, rfl⟩
        have hf := lz_s hf v15 ev15
        refine lv_iinc (v := v15) (lv' := [(3, .int v15), (0, .ref (hMo 99)), (1, .int p1), (2, .int x2)]) hx hb dX11_within_73 hl (k := 3) rfl (by rw [ev15]; rfl) (by decide) rfl (fun ls hl => ?_)
        refine lv_goto (tgt := 42) hx hb dX11_within_76 (by decide) ?_
        exact ih x2 v15 s14 H locs ls hf hP hD hS (lv_sub hl [1, 2, 3, 0] rfl)
  have w35 : ∀ (n : Nat), ∀ (x2 : Int32), ∀ (sMo : MS), ∀ (H : Heap) (locs : List Loc) (ls : Array Slot), f_X11_within_35 F p1 n x2 sMo = some res → va_P D vwCl (wMo K hMo sMo) H → va_D A (wMo K hMo sMo) → va_S A s.heap H locs → lv_has ls 5 [(0, .ref (hMo 99)), (1, .int p1), (2, .int x2)] → W p l e (headSpec wz_X11_within r_X11_within).room s m args below meth c H locs 0 0 Q (F0 m 35 ls []) := by
    intro n
    induction n with
    | zero =>
      intro x2 sMo H locs ls hf
      exact absurd (show none = some res from hf) (fun h => nomatch h)
    | succ n ih =>
      intro x2 sMo H locs ls hf hP hD hS hl
      rw [f_X11_within_35] at hf
      refine lv_iload_n hx hb dX11_within_35 rfl (lv_at hl 2 rfl) ?_
      refine lv_iload_n hx hb dX11_within_36 rfl (lv_at hl 1 rfl) ?_
      refine lv_icmp_gt (tgt := 85) hx hb dX11_within_37 (by decide) (fun c7 => ?_) (fun c7 => ?_)
      · have hf := it_t hf c7
        exact w85 sMo H locs ls hf hP hD hS (lv_sub hl [0, 1] rfl)
      · have hf := it_f hf c7
        refine lv_iconst (v := (0 : Int32)) hx hb dX11_within_40 (by decide) ?_
        refine lv_istore_n (lv' := [(3, .int (0 : Int32)), (0, .ref (hMo 99)), (1, .int p1), (2, .int x2)]) hx hb dX11_within_41 rfl hl (by decide) rfl (fun ls hl => ?_)
        exact w42 (f_X11_within_35 F p1 n) ih F x2 (0 : Int32) sMo H locs ls hf hP hD hS (lv_sub hl [1, 2, 3, 0] rfl)
  have hen : entryFrame m args 5 = entryFrame m (([.ref (hMo 99), .int p1] : List Value).toArray) 5 := by rw [hargs]
  have hl := lv_entry ([.ref (hMo 99), .int p1]) (n := 5) (Nat.le_of_ble_eq_true rfl)
  rw [hen, lg_entry_eq]
  generalize (lg_sl ([.ref (hMo 99), .int p1]) ++ List.replicate (5 - (lg_sl ([.ref (hMo 99), .int p1])).length) Slot.unset).toArray = ls at hl ⊢
  have hl : lv_has ls 5 [(0, .ref (hMo 99)), (1, .int p1)] := hl
  unfold f_X11_within at hf
  obtain ⟨H, hHe⟩ : ∃ z, z = s.heap := ⟨_, rfl⟩
  obtain ⟨locs, hLe⟩ : ∃ z : List Loc, z = [] := ⟨_, rfl⟩
  rw [← hLe]
  have hS : va_S A s.heap H locs := by rw [hHe, hLe]; exact hS
  have hP : va_P D vwCl (wMo K hMo sMo) H := by rw [hHe]; exact hP
  have hgo : W p l e (headSpec wz_X11_within r_X11_within).room s m args below meth c H locs 0 0 Q (F0 m 0 ls []) := by
    refine lv_aload_n hx hb dX11_within_0 rfl (lv_at hl 0 rfl) ?_
    obtain ⟨o1, go1, hf⟩ := bd_s hf
    refine rs_Vv (As := []) (rest := []) ⟨hx, hb, hml, hown, hts⟩ (c_X11_good l D K F hMo H.size sMo o1 go1) (cwV 0 hts (gcV_X11_good (mB18 _ (List.mem_of_getElem? (i := 7) rfl))) rfl rfl rfl hdV_X11_good ⟨Nat.le_of_ble_eq_true rfl, Nat.le_of_ble_eq_true rfl⟩) hK hP hD hS hA (va_recv hK hP (ci := 10) (q0 := 0) rfl o_Mo) rfl hl.1 rfl (Nat.le_of_ble_eq_true rfl) dX11_within_1 ⟨Nat.zero_le _, Nat.zero_le _⟩ (fun H locs hP hD hS => ?_)
    have hP : va_P D vwCl (wMo K hMo o1) H := hP
    have hD : va_D A (wMo K hMo o1) := hD
    refine lv_aload_n hx hb dX11_within_4 rfl (lv_at hl 0 rfl) ?_
    refine va_get (D := D) (ci := 10) (v := .int (o1.1 14)) (C := RX11) (T := TX11) (N := 41) hx hb hts iX11 hown hK hP 0 o_Mo rfl 14 (by decide) (htl _ (mB18 _ (List.mem_of_getElem? (i := 4) rfl))) (fun _ h9 => h9) rfl dX11_within_5 ?_
    refine lv_if_ne (tgt := 17) hx hb dX11_within_8 (by decide) (fun c2 => ?_) (fun c2 => ?_)
    · have hf := it_f hf c2
      refine lv_iload_n hx hb dX11_within_17 rfl (lv_at hl 1 rfl) ?_
      refine lv_iconst (v := (0 : Int32)) hx hb dX11_within_18 (by decide) ?_
      refine lv_bipush (v := (9 : Int32)) hx hb dX11_within_19 (by decide) ?_
      obtain ⟨o3, go3, hf⟩ := bd_s hf
      refine ro_Si (As := [.int p1, .int (0 : Int32), .int (9 : Int32)]) (rest := []) ⟨hx, hb, hml, hown, hts⟩ (c_X11_in l D K F p1 (0 : Int32) (9 : Int32) o3 go3) (va_cwS 3 hts (gcS_X11_in (mB18 _ (List.mem_of_getElem? (i := 12) rfl))) rfl rfl rfl hdS_X11_in ⟨Nat.le_of_ble_eq_true rfl, Nat.le_of_ble_eq_true rfl⟩) hK hP hS va_Pnil rfl hl.1 rfl (Nat.le_of_ble_eq_true rfl) dX11_within_21 ⟨Nat.zero_le _, Nat.zero_le _⟩ (fun H locs hP hS => ?_)
      refine lv_if_ne (tgt := 33) hx hb dX11_within_24 (by decide) (fun c4 => ?_) (fun c4 => ?_)
      · have hf := it_f hf c4
        refine lv_iconst (v := (0 : Int32)) hx hb dX11_within_33 (by decide) ?_
        refine lv_istore_n (lv' := [(2, .int (0 : Int32)), (0, .ref (hMo 99)), (1, .int p1)]) hx hb dX11_within_34 rfl hl (by decide) rfl (fun ls hl => ?_)
        exact w35 F (0 : Int32) o1 H locs ls hf hP hD hS (lv_sub hl [1, 2, 0] rfl)
      · have hf := it_t hf c4
        refine lv_aload_n hx hb dX11_within_27 rfl (lv_at hl 0 rfl) ?_
        refine lv_iconst (v := (2 : Int32)) hx hb dX11_within_28 (by decide) ?_
        obtain ⟨o5, go5, hf⟩ := bd_s hf
        refine rs_Vi (As := [.int (2 : Int32)]) (rest := []) ⟨hx, hb, hml, hown, hts⟩ (c_X11_no l D K F hMo H.size o1 (2 : Int32) o5 go5) (cwV 1 hts (gcV_X11_no (mB18 _ (List.mem_of_getElem? (i := 15) rfl))) rfl rfl rfl hdV_X11_no ⟨Nat.le_of_ble_eq_true rfl, Nat.le_of_ble_eq_true rfl⟩) hK hP hD hS hA (va_recv hK hP (ci := 10) (q0 := 0) rfl o_Mo) rfl hl.1 rfl (Nat.le_of_ble_eq_true rfl) dX11_within_29 ⟨Nat.zero_le _, Nat.zero_le _⟩ (fun H locs hP hD hS => ?_)
        have hP : va_P D vwCl (wMo K hMo o5.2) H := hP
        have hD : va_D A (wMo K hMo o5.2) := hD
        have e9 := Option.some.inj hf
        rw [hQ]
        exact W.iret (v := o5.1) hx hb hr (fun t ht hW => ⟨⟨o5.1, o5.2, rfl, ⟨pr1 e9, pr2 e9⟩, ⟨by rw [ht]; exact hP, va_K.moved hW.alike hK, hD⟩⟩, hS.F ht⟩) hS.2.2 dX11_within_32
    · have hf := it_t hf c2
      refine lv_aload_n hx hb dX11_within_11 rfl (lv_at hl 0 rfl) ?_
      refine lv_iconst (v := (1 : Int32)) hx hb dX11_within_12 (by decide) ?_
      obtain ⟨o6, go6, hf⟩ := bd_s hf
      refine rs_Vi (As := [.int (1 : Int32)]) (rest := []) ⟨hx, hb, hml, hown, hts⟩ (c_X11_no l D K F hMo H.size o1 (1 : Int32) o6 go6) (cwV 1 hts (gcV_X11_no (mB18 _ (List.mem_of_getElem? (i := 15) rfl))) rfl rfl rfl hdV_X11_no ⟨Nat.le_of_ble_eq_true rfl, Nat.le_of_ble_eq_true rfl⟩) hK hP hD hS hA (va_recv hK hP (ci := 10) (q0 := 0) rfl o_Mo) rfl hl.1 rfl (Nat.le_of_ble_eq_true rfl) dX11_within_13 ⟨Nat.zero_le _, Nat.zero_le _⟩ (fun H locs hP hD hS => ?_)
      have hP : va_P D vwCl (wMo K hMo o6.2) H := hP
      have hD : va_D A (wMo K hMo o6.2) := hD
      have e9 := Option.some.inj hf
      rw [hQ]
      exact W.iret (v := o6.1) hx hb hr (fun t ht hW => ⟨⟨o6.1, o6.2, rfl, ⟨pr1 e9, pr2 e9⟩, ⟨by rw [ht]; exact hP, va_K.moved hW.alike hK, hD⟩⟩, hS.F ht⟩) hS.2.2 dX11_within_16
  rw [hHe] at hgo
  exact hgo

def wz_X11_rest : List Cond := .code yX11_rest cX11_rest 3 (some .int) :: wsL_law
abbrev r_X11_rest : Room := { frames := 3, cells := 0, slots := 0, locals := 72 }
set_option maxHeartbeats 4000000 in
set_option maxRecDepth 100000 in
theorem c_X11_rest (l : Launch) (D : va_G) (K : Nat → ClassId) (F : Nat) (hMo : Nat → Nat) (sz : Nat) (sMo : MS) (res : Int32 × MS) (hf : f_X11_rest F sMo = some res) : Met l yX11_rest wz_X11_rest r_X11_rest (va_Pc [.ref (hMo 99)] (PW D K (wMo K hMo sMo) sz)) (va_Qi (fun r u => r = res.1 ∧ u = res.2) (fun u t => BW D K (va_A (wMo K hMo sMo) sz) (wMo K hMo u) t) (va_A (wMo K hMo sMo) sz)) 0 0 (va_A (wMo K hMo sMo) sz) := by
  refine Met.ofW (cc := cX11_rest) (maxL := 3) (ret := (some .int)) (by decide) rfl ?_
  intro p e s m args below meth c s₁ B hml hv
  obtain ⟨hargs, hsz, hP, hK, hD0⟩ := hv
  have hx := B.exec
  have hb := B.bytes
  have hr := B.returns
  have hts := atoms_spec (ws := wz_X11_rest) B.pre
  have htl : ∀ w ∈ wsL_law, w.before args s = true := fun w h => hts w (List.mem_cons_of_mem _ h)
  have hown : s.vm.findClass RX11 = some m.cls := findClass_of_methodNamed B.named
  have hlocks := B.notSynchronized
  subst hsz
  have hD := hD0.self (sz := s.heap.size)
  generalize hAe : va_A (wMo K hMo sMo) s.heap.size = A at hD ⊢
  have hA : ∀ q : Nat, s.heap.size ≤ q → A q := fun q h => by rw [← hAe]; exact Or.inr h
  have hS : va_S A s.heap s.heap [] := va_S.rf
  have iX11 : ∀ w ∈ wsX110, w ∈ wz_X11_rest := fun w h => List.mem_cons_of_mem _ (inlX11 w h)
  suffices hgo : ∀ Q : State → Prop, Q = MQ below (va_Qi (fun r u => r = res.1 ∧ u = res.2) (fun u t => BW D K A (wMo K hMo u) t) A) args s 0 0 A → W p l e (headSpec wz_X11_rest r_X11_rest).room s m args below meth c s.heap [] 0 0 Q (entryFrame m args 3) from hgo _ rfl
  intro Q hQ
  have w50 : ∀ (n : Nat), ∀ (x1 : Int32), ∀ (x2 : Int32), ∀ (sMo : MS), ∀ (H : Heap) (locs : List Loc) (ls : Array Slot), f_X11_rest_50 F n x1 x2 sMo = some res → va_P D vwCl (wMo K hMo sMo) H → va_D A (wMo K hMo sMo) → va_S A s.heap H locs → lv_has ls 3 [(0, .ref (hMo 99)), (1, .int x1), (2, .int x2)] → W p l e (headSpec wz_X11_rest r_X11_rest).room s m args below meth c H locs 0 0 Q (F0 m 50 ls []) := by
    intro n
    induction n with
    | zero =>
      intro x1 x2 sMo H locs ls hf
      exact absurd (show none = some res from hf) (fun h => nomatch h)
    | succ n ih =>
      intro x1 x2 sMo H locs ls hf hP hD hS hl
      rw [f_X11_rest_50] at hf
      refine lv_iload_n hx hb dX11_rest_50 rfl (lv_at hl 2 rfl) ?_
      refine lv_aload_n hx hb dX11_rest_51 rfl (lv_at hl 0 rfl) ?_
      obtain ⟨o11, go11, hf⟩ := bd_s hf
      refine ro_Vi (As := []) (rest := [.int x2]) ⟨hx, hb, hml, hown, hts⟩ (c_X11_lastStation l D K F hMo sMo o11 go11) (cwV 0 hts (gcV_X11_lastStation (mB28 _ (List.mem_of_getElem? (i := 11) rfl))) rfl rfl rfl hdV_X11_lastStation ⟨Nat.le_of_ble_eq_true rfl, Nat.le_of_ble_eq_true rfl⟩) hK hP hS hP (va_recv hK hP (ci := 10) (q0 := 0) rfl o_Mo) rfl hl.1 rfl (Nat.le_of_ble_eq_true rfl) dX11_rest_52 ⟨Nat.zero_le _, Nat.zero_le _⟩ (fun H locs hP hS => ?_)
      refine lv_icmp_ge (tgt := 84) hx hb dX11_rest_55 (by decide) (fun c12 => ?_) (fun c12 => ?_)
      · have hf := it_t hf c12
        refine lv_iload_n hx hb dX11_rest_84 rfl (lv_at hl 1 rfl) ?_
        have e9 := Option.some.inj hf
        rw [hQ]
        exact W.iret (v := x1) hx hb hr (fun t ht hW => ⟨⟨x1, sMo, rfl, ⟨pr1 e9, pr2 e9⟩, ⟨by rw [ht]; exact hP, va_K.moved hW.alike hK, hD⟩⟩, hS.F ht⟩) hS.2.2 dX11_rest_85
      · have hf := it_f hf c12
        refine lv_iload_n hx hb dX11_rest_58 rfl (lv_at hl 1 rfl) ?_
        refine lv_aload_n hx hb dX11_rest_59 rfl (lv_at hl 0 rfl) ?_
        refine va_get (D := D) (ci := 10) (v := .ref (hMo 24)) (C := RX11) (T := TX11) (N := 41) hx hb hts iX11 hown hK hP 0 o_Mo rfl 24 (by decide) (htl _ (mB6 _ (List.mem_of_getElem? (i := 10) rfl))) (fun _ h9 => h9) rfl dX11_rest_60 ?_
        refine lv_bipush (v := (41 : Int32)) hx hb dX11_rest_63 (by decide) ?_
        refine lv_iload_n hx hb dX11_rest_65 rfl (lv_at hl 2 rfl) ?_
        refine lv_imul hx hb dX11_rest_66 ?_
        refine lv_iload_n hx hb dX11_rest_67 rfl (lv_at hl 1 rfl) ?_
        refine lv_iadd hx hb dX11_rest_68 ?_
        obtain ⟨g13, hf⟩ := gd_s hf
        refine va_iald hx hb hK hP 10 0 (f := sMo.2.2.1 24) a_Mo_24 rfl (vpb_in g13) dX11_rest_69 ?_
        refine lv_topi (fun v14 ev14 => ?_)
        have hf := lz_s hf v14 ev14
        refine lv_aload_n hx hb dX11_rest_70 rfl (lv_at hl 0 rfl) ?_
        refine lv_iload_n hx hb dX11_rest_71 rfl (lv_at hl 2 rfl) ?_
        obtain ⟨o15, go15, hf⟩ := bd_s hf
        refine ro_Vi (As := [.int x2]) (rest := [.int v14, .int x1]) ⟨hx, hb, hml, hown, hts⟩ (c_X11_leg l D K F hMo sMo x2 o15 go15) (cwV 1 hts (gcV_X11_leg (mB27 _ (List.mem_of_getElem? (i := 15) rfl))) rfl rfl rfl hdV_X11_leg ⟨Nat.le_of_ble_eq_true rfl, Nat.le_of_ble_eq_true rfl⟩) hK hP hS hP (va_recv hK hP (ci := 10) (q0 := 0) rfl o_Mo) rfl hl.1 rfl (Nat.le_of_ble_eq_true rfl) dX11_rest_72 ⟨Nat.zero_le _, Nat.zero_le _⟩ (fun H locs hP hS => ?_)
        refine lv_isub hx hb dX11_rest_75 ?_
        refine lv_iadd hx hb dX11_rest_76 ?_
        refine lv_istore_n (lv' := [(1, .int (x1 + (v14 - o15))), (0, .ref (hMo 99)), (2, .int x2)]) hx hb dX11_rest_77 rfl hl (by decide) rfl (fun ls hl => ?_)
        obtain ⟨v16, ev16⟩ : ∃ z : Int32, z = x2 + (1 : Int32) := ⟨_, rfl⟩
        have hf := lz_s hf v16 ev16
        refine lv_iinc (v := v16) (lv' := [(2, .int v16), (1, .int (x1 + (v14 - o15))), (0, .ref (hMo 99))]) hx hb dX11_rest_78 hl (k := 2) rfl (by rw [ev16]; rfl) (by decide) rfl (fun ls hl => ?_)
        refine lv_goto (tgt := 50) hx hb dX11_rest_81 (by decide) ?_
        exact ih (x1 + (v14 - o15)) v16 sMo H locs ls hf hP hD hS (lv_sub hl [2, 1, 0] rfl)
  have hen : entryFrame m args 3 = entryFrame m (([.ref (hMo 99)] : List Value).toArray) 3 := by rw [hargs]
  have hl := lv_entry ([.ref (hMo 99)]) (n := 3) (Nat.le_of_ble_eq_true rfl)
  rw [hen, lg_entry_eq]
  generalize (lg_sl ([.ref (hMo 99)]) ++ List.replicate (3 - (lg_sl ([.ref (hMo 99)])).length) Slot.unset).toArray = ls at hl ⊢
  have hl : lv_has ls 3 [(0, .ref (hMo 99))] := hl
  unfold f_X11_rest at hf
  obtain ⟨H, hHe⟩ : ∃ z, z = s.heap := ⟨_, rfl⟩
  obtain ⟨locs, hLe⟩ : ∃ z : List Loc, z = [] := ⟨_, rfl⟩
  rw [← hLe]
  have hS : va_S A s.heap H locs := by rw [hHe, hLe]; exact hS
  have hP : va_P D vwCl (wMo K hMo sMo) H := by rw [hHe]; exact hP
  have hgo : W p l e (headSpec wz_X11_rest r_X11_rest).room s m args below meth c H locs 0 0 Q (F0 m 0 ls []) := by
    refine lv_aload_n hx hb dX11_rest_0 rfl (lv_at hl 0 rfl) ?_
    obtain ⟨o1, go1, hf⟩ := bd_s hf
    refine rs_Vv (As := []) (rest := []) ⟨hx, hb, hml, hown, hts⟩ (c_X11_good l D K F hMo H.size sMo o1 go1) (cwV 0 hts (gcV_X11_good (mB18 _ (List.mem_of_getElem? (i := 7) rfl))) rfl rfl rfl hdV_X11_good ⟨Nat.le_of_ble_eq_true rfl, Nat.le_of_ble_eq_true rfl⟩) hK hP hD hS hA (va_recv hK hP (ci := 10) (q0 := 0) rfl o_Mo) rfl hl.1 rfl (Nat.le_of_ble_eq_true rfl) dX11_rest_1 ⟨Nat.zero_le _, Nat.zero_le _⟩ (fun H locs hP hD hS => ?_)
    have hP : va_P D vwCl (wMo K hMo o1) H := hP
    have hD : va_D A (wMo K hMo o1) := hD
    refine lv_aload_n hx hb dX11_rest_4 rfl (lv_at hl 0 rfl) ?_
    refine va_get (D := D) (ci := 10) (v := .int (o1.1 14)) (C := RX11) (T := TX11) (N := 41) hx hb hts iX11 hown hK hP 0 o_Mo rfl 14 (by decide) (htl _ (mB18 _ (List.mem_of_getElem? (i := 4) rfl))) (fun _ h9 => h9) rfl dX11_rest_5 ?_
    refine lv_if_ne (tgt := 17) hx hb dX11_rest_8 (by decide) (fun c2 => ?_) (fun c2 => ?_)
    · have hf := it_f hf c2
      refine lv_aload_n hx hb dX11_rest_17 rfl (lv_at hl 0 rfl) ?_
      refine lv_iconst (v := (0 : Int32)) hx hb dX11_rest_18 (by decide) ?_
      refine lv_iconst (v := (-1 : Int32)) hx hb dX11_rest_19 (by decide) ?_
      obtain ⟨o3, go3, hf⟩ := bd_s hf
      refine rs_Vv (As := [.int (0 : Int32), .int (-1 : Int32)]) (rest := []) ⟨hx, hb, hml, hown, hts⟩ (c_X11_layPlans l D K F hMo H.size o1 (0 : Int32) (-1 : Int32) o3 go3) (cwV 2 hts (gcV_X11_layPlans (mB33 _ (List.mem_of_getElem? (i := 13) rfl))) rfl rfl rfl hdV_X11_layPlans ⟨Nat.le_of_ble_eq_true rfl, Nat.le_of_ble_eq_true rfl⟩) hK hP hD hS hA (va_recv hK hP (ci := 10) (q0 := 0) rfl o_Mo) rfl hl.1 rfl (Nat.le_of_ble_eq_true rfl) dX11_rest_20 ⟨Nat.zero_le _, Nat.zero_le _⟩ (fun H locs hP hD hS => ?_)
      have hP : va_P D vwCl (wMo K hMo o3) H := hP
      have hD : va_D A (wMo K hMo o3) := hD
      refine lv_aload_n hx hb dX11_rest_23 rfl (lv_at hl 0 rfl) ?_
      refine lv_aload_n hx hb dX11_rest_24 rfl (lv_at hl 0 rfl) ?_
      refine va_get (D := D) (ci := 10) (v := .ref (hMo 15)) (C := RX11) (T := TX11) (N := 41) hx hb hts iX11 hown hK hP 0 o_Mo rfl 15 (by decide) (htl _ (mB6 _ (List.mem_of_getElem? (i := 3) rfl))) (fun _ h9 => h9) rfl dX11_rest_25 ?_
      refine lv_iconst (v := (1 : Int32)) hx hb dX11_rest_28 (by decide) ?_
      obtain ⟨g4, hf⟩ := gd_s hf
      refine va_iald hx hb hK hP 3 0 (f := o3.2.2.1 15) a_Mo_15 rfl (vpb_in g4) dX11_rest_29 ?_
      refine lv_topi (fun v5 ev5 => ?_)
      have hf := lz_s hf v5 ev5
      obtain ⟨o6, go6, hf⟩ := bd_s hf
      refine ro_Vi (As := [.int v5]) (rest := []) ⟨hx, hb, hml, hown, hts⟩ (c_X11_leastFrom l D K F hMo o3 v5 o6 go6) (cwV 1 hts (gcV_X11_leastFrom (mB33 _ (List.mem_of_getElem? (i := 18) rfl))) rfl rfl rfl hdV_X11_leastFrom ⟨Nat.le_of_ble_eq_true rfl, Nat.le_of_ble_eq_true rfl⟩) hK hP hS hP (va_recv hK hP (ci := 10) (q0 := 0) rfl o_Mo) rfl hl.1 rfl (Nat.le_of_ble_eq_true rfl) dX11_rest_30 ⟨Nat.zero_le _, Nat.zero_le _⟩ (fun H locs hP hS => ?_)
      refine lv_bipush (v := (-2 : Int32)) hx hb dX11_rest_33 (by decide) ?_
      refine lv_icmp_ne (tgt := 41) hx hb dX11_rest_35 (by decide) (fun c7 => ?_) (fun c7 => ?_)
      · have hf := it_f hf c7
        refine lv_aload_n hx hb dX11_rest_41 rfl (lv_at hl 0 rfl) ?_
        refine va_get (D := D) (ci := 10) (v := .ref (hMo 15)) (C := RX11) (T := TX11) (N := 41) hx hb hts iX11 hown hK hP 0 o_Mo rfl 15 (by decide) (htl _ (mB6 _ (List.mem_of_getElem? (i := 3) rfl))) (fun _ h9 => h9) rfl dX11_rest_42 ?_
        refine lv_iconst (v := (1 : Int32)) hx hb dX11_rest_45 (by decide) ?_
        obtain ⟨g8, hf⟩ := gd_s hf
        refine va_iald hx hb hK hP 3 0 (f := o3.2.2.1 15) a_Mo_15 rfl (vpb_in g8) dX11_rest_46 ?_
        refine lv_topi (fun v9 ev9 => ?_)
        have hf := lz_s hf v9 ev9
        refine lv_istore_n (lv' := [(1, .int v9), (0, .ref (hMo 99))]) hx hb dX11_rest_47 rfl hl (by decide) rfl (fun ls hl => ?_)
        refine lv_iconst (v := (0 : Int32)) hx hb dX11_rest_48 (by decide) ?_
        refine lv_istore_n (lv' := [(2, .int (0 : Int32)), (1, .int v9), (0, .ref (hMo 99))]) hx hb dX11_rest_49 rfl hl (by decide) rfl (fun ls hl => ?_)
        exact w50 F v9 (0 : Int32) o3 H locs ls hf hP hD hS (lv_sub hl [2, 1, 0] rfl)
      · have hf := it_t hf c7
        refine lv_bipush (v := (-2 : Int32)) hx hb dX11_rest_38 (by decide) ?_
        have e9 := Option.some.inj hf
        rw [hQ]
        exact W.iret (v := (-2 : Int32)) hx hb hr (fun t ht hW => ⟨⟨(-2 : Int32), o3, rfl, ⟨pr1 e9, pr2 e9⟩, ⟨by rw [ht]; exact hP, va_K.moved hW.alike hK, hD⟩⟩, hS.F ht⟩) hS.2.2 dX11_rest_40
    · have hf := it_t hf c2
      refine lv_aload_n hx hb dX11_rest_11 rfl (lv_at hl 0 rfl) ?_
      refine lv_iconst (v := (1 : Int32)) hx hb dX11_rest_12 (by decide) ?_
      obtain ⟨o10, go10, hf⟩ := bd_s hf
      refine rs_Vi (As := [.int (1 : Int32)]) (rest := []) ⟨hx, hb, hml, hown, hts⟩ (c_X11_no l D K F hMo H.size o1 (1 : Int32) o10 go10) (cwV 1 hts (gcV_X11_no (mB18 _ (List.mem_of_getElem? (i := 15) rfl))) rfl rfl rfl hdV_X11_no ⟨Nat.le_of_ble_eq_true rfl, Nat.le_of_ble_eq_true rfl⟩) hK hP hD hS hA (va_recv hK hP (ci := 10) (q0 := 0) rfl o_Mo) rfl hl.1 rfl (Nat.le_of_ble_eq_true rfl) dX11_rest_13 ⟨Nat.zero_le _, Nat.zero_le _⟩ (fun H locs hP hD hS => ?_)
      have hP : va_P D vwCl (wMo K hMo o10.2) H := hP
      have hD : va_D A (wMo K hMo o10.2) := hD
      have e9 := Option.some.inj hf
      rw [hQ]
      exact W.iret (v := o10.1) hx hb hr (fun t ht hW => ⟨⟨o10.1, o10.2, rfl, ⟨pr1 e9, pr2 e9⟩, ⟨by rw [ht]; exact hP, va_K.moved hW.alike hK, hD⟩⟩, hS.F ht⟩) hS.2.2 dX11_rest_16
  rw [hHe] at hgo
  exact hgo

def wz_X11_bought : List Cond := .code yX11_bought cX11_bought 8 (some .int) :: wsL_law
abbrev r_X11_bought : Room := { frames := 3, cells := 0, slots := 0, locals := 67 }
set_option maxHeartbeats 4000000 in
set_option maxRecDepth 100000 in
theorem c_X11_bought (l : Launch) (D : va_G) (K : Nat → ClassId) (F : Nat) (hMo : Nat → Nat) (sMo : MS) (p1 : Int32) (p2 : Int32) (p3 : Int32) (p4 : Int32) (res : Int32) (hf : f_X11_bought F sMo p1 p2 p3 p4 = some res) : Met l yX11_bought wz_X11_bought r_X11_bought (va_Pc [.ref (hMo 99), .int p1, .int p2, .int p3, .int p4] (PR D K (wMo K hMo sMo))) (va_Qi (fun r (_ : Unit) => r = res) BN nOne) 0 0 nOne := by
  refine Met.ofW (cc := cX11_bought) (maxL := 8) (ret := (some .int)) (by decide) rfl ?_
  intro p e s m args below meth c s₁ B hml hv
  obtain ⟨hargs, hP, hK⟩ := hv
  have hx := B.exec
  have hb := B.bytes
  have hr := B.returns
  have hts := atoms_spec (ws := wz_X11_bought) B.pre
  have htl : ∀ w ∈ wsL_law, w.before args s = true := fun w h => hts w (List.mem_cons_of_mem _ h)
  have hown : s.vm.findClass RX11 = some m.cls := findClass_of_methodNamed B.named
  have hlocks := B.notSynchronized
  have hS : va_S nOne s.heap s.heap [] := va_S.rf
  have iX11 : ∀ w ∈ wsX110, w ∈ wz_X11_bought := fun w h => List.mem_cons_of_mem _ (inlX11 w h)
  suffices hgo : ∀ Q : State → Prop, Q = MQ below (va_Qi (fun r (_ : Unit) => r = res) BN nOne) args s 0 0 nOne → W p l e (headSpec wz_X11_bought r_X11_bought).room s m args below meth c s.heap [] 0 0 Q (entryFrame m args 8) from hgo _ rfl
  intro Q hQ
  have w86 : ∀ (x5 : Int32), ∀ (x6 : Int32), ∀ (H : Heap) (locs : List Loc) (ls : Array Slot), f_X11_bought_86 F sMo p1 p2 p3 p4 x5 x6 = some res → va_P D vwCl (wMo K hMo sMo) H → va_S nOne s.heap H locs → lv_has ls 8 [(0, .ref (hMo 99)), (2, .int p2), (3, .int p3), (5, .int x5), (6, .int x6)] → W p l e (headSpec wz_X11_bought r_X11_bought).room s m args below meth c H locs 0 0 Q (F0 m 86 ls []) := by
    intro x5 x6 H locs ls hf hP hS hl
    unfold f_X11_bought_86 at hf
    refine lv_aload_n hx hb dX11_bought_86 rfl (lv_at hl 0 rfl) ?_
    refine lv_iload_n hx hb dX11_bought_87 rfl (lv_at hl 1 rfl) ?_
    refine lv_iload hx hb dX11_bought_88 (lv_at hl 4 rfl) ?_
    obtain ⟨o16, go16, hf⟩ := bd_s hf
    refine ro_Vi (As := [.int p2, .int x6]) (rest := []) ⟨hx, hb, hml, hown, hts⟩ (c_X11_legsOf l D K F hMo sMo p2 x6 o16 go16) (cwV 2 hts (gcV_X11_legsOf (mB27 _ (List.mem_of_getElem? (i := 11) rfl))) rfl rfl rfl hdV_X11_legsOf ⟨Nat.le_of_ble_eq_true rfl, Nat.le_of_ble_eq_true rfl⟩) hK hP hS hP (va_recv hK hP (ci := 10) (q0 := 0) rfl o_Mo) rfl hl.1 rfl (Nat.le_of_ble_eq_true rfl) dX11_bought_90 ⟨Nat.zero_le _, Nat.zero_le _⟩ (fun H locs hP hS => ?_)
    refine lv_istore (lv' := [(7, .int o16), (0, .ref (hMo 99)), (2, .int p2), (3, .int p3), (5, .int x5), (6, .int x6)]) hx hb dX11_bought_93 hl (by decide) rfl (fun ls hl => ?_)
    refine lv_iload hx hb dX11_bought_95 (lv_at hl 0 rfl) ?_
    refine lv_iload_n hx hb dX11_bought_97 rfl (lv_at hl 3 rfl) ?_
    refine lv_icmp_gt (tgt := 103) hx hb dX11_bought_98 (by decide) (fun c17 => ?_) (fun c17 => ?_)
    · have hf := it_t hf c17
      refine lv_iload hx hb dX11_bought_103 (lv_at hl 0 rfl) ?_
      refine lv_aload_n hx hb dX11_bought_105 rfl (lv_at hl 1 rfl) ?_
      refine va_get (D := D) (ci := 10) (v := .ref (hMo 15)) (C := RX11) (T := TX11) (N := 41) hx hb hts iX11 hown hK hP 0 o_Mo rfl 15 (by decide) (htl _ (mB6 _ (List.mem_of_getElem? (i := 3) rfl))) (fun _ h9 => h9) rfl dX11_bought_106 ?_
      refine lv_iconst (v := (0 : Int32)) hx hb dX11_bought_109 (by decide) ?_
      obtain ⟨g18, hf⟩ := gd_s hf
      refine va_iald hx hb hK hP 3 0 (f := sMo.2.2.1 15) a_Mo_15 rfl (vpb_in g18) dX11_bought_110 ?_
      refine lv_topi (fun v19 ev19 => ?_)
      have hf := lz_s hf v19 ev19
      refine lv_icmp_gt (tgt := 121) hx hb dX11_bought_111 (by decide) (fun c20 => ?_) (fun c20 => ?_)
      · have hf := it_t hf c20
        refine lv_iload hx hb dX11_bought_121 (lv_at hl 4 rfl) ?_
        have e9 := Option.some.inj hf
        rw [hQ]
        exact W.iret (v := x5) hx hb hr (fun t ht hW => ⟨⟨x5, (), rfl, e9, trivial⟩, hS.F ht⟩) hS.2.2 dX11_bought_123
      · have hf := it_f hf c20
        refine lv_iload hx hb dX11_bought_114 (lv_at hl 0 rfl) ?_
        refine lv_iload_n hx hb dX11_bought_116 rfl (lv_at hl 3 rfl) ?_
        refine lv_isub hx hb dX11_bought_117 ?_
        refine lv_goto (tgt := 123) hx hb dX11_bought_118 (by decide) ?_
        have e9 := Option.some.inj hf
        rw [hQ]
        exact W.iret (v := (o16 - p3)) hx hb hr (fun t ht hW => ⟨⟨(o16 - p3), (), rfl, e9, trivial⟩, hS.F ht⟩) hS.2.2 dX11_bought_123
    · have hf := it_f hf c17
      refine lv_iconst (v := (0 : Int32)) hx hb dX11_bought_101 (by decide) ?_
      have e9 := Option.some.inj hf
      rw [hQ]
      exact W.iret (v := (0 : Int32)) hx hb hr (fun t ht hW => ⟨⟨(0 : Int32), (), rfl, e9, trivial⟩, hS.F ht⟩) hS.2.2 dX11_bought_102
  have w80 : ∀ (k46 : Int32 → Int32 → Option Int32), (∀ (x5 : Int32), ∀ (x6 : Int32), ∀ (H : Heap) (locs : List Loc) (ls : Array Slot), k46 x5 x6 = some res → va_P D vwCl (wMo K hMo sMo) H → va_S nOne s.heap H locs → lv_has ls 8 [(0, .ref (hMo 99)), (1, .int p1), (2, .int p2), (3, .int p3), (4, .int p4), (5, .int x5), (6, .int x6)] → W p l e (headSpec wz_X11_bought r_X11_bought).room s m args below meth c H locs 0 0 Q (F0 m 46 ls [])) → ∀ (x5 : Int32), ∀ (x6 : Int32), ∀ (H : Heap) (locs : List Loc) (ls : Array Slot), f_X11_bought_80 F sMo p1 p2 p3 p4 k46 x5 x6 = some res → va_P D vwCl (wMo K hMo sMo) H → va_S nOne s.heap H locs → lv_has ls 8 [(0, .ref (hMo 99)), (1, .int p1), (2, .int p2), (3, .int p3), (4, .int p4), (5, .int x5), (6, .int x6)] → W p l e (headSpec wz_X11_bought r_X11_bought).room s m args below meth c H locs 0 0 Q (F0 m 80 ls []) := by
    intro k46 hk46 x5 x6 H locs ls hf hP hS hl
    unfold f_X11_bought_80 at hf
    obtain ⟨v15, ev15⟩ : ∃ z : Int32, z = x6 + (1 : Int32) := ⟨_, rfl⟩
    have hf := lz_s hf v15 ev15
    refine lv_iinc (v := v15) (lv' := [(6, .int v15), (0, .ref (hMo 99)), (1, .int p1), (2, .int p2), (3, .int p3), (4, .int p4), (5, .int x5)]) hx hb dX11_bought_80 hl (k := 6) rfl (by rw [ev15]; rfl) (by decide) rfl (fun ls hl => ?_)
    refine lv_goto (tgt := 46) hx hb dX11_bought_83 (by decide) ?_
    exact hk46 x5 v15 H locs ls hf hP hS (lv_sub hl [1, 2, 3, 4, 5, 6, 0] rfl)
  have w46 : ∀ (n : Nat), ∀ (x5 : Int32), ∀ (x6 : Int32), ∀ (H : Heap) (locs : List Loc) (ls : Array Slot), f_X11_bought_46 F sMo p1 p2 p3 p4 n x5 x6 = some res → va_P D vwCl (wMo K hMo sMo) H → va_S nOne s.heap H locs → lv_has ls 8 [(0, .ref (hMo 99)), (1, .int p1), (2, .int p2), (3, .int p3), (4, .int p4), (5, .int x5), (6, .int x6)] → W p l e (headSpec wz_X11_bought r_X11_bought).room s m args below meth c H locs 0 0 Q (F0 m 46 ls []) := by
    intro n
    induction n with
    | zero =>
      intro x5 x6 H locs ls hf
      exact absurd (show none = some res from hf) (fun h => nomatch h)
    | succ n ih =>
      intro x5 x6 H locs ls hf hP hS hl
      rw [f_X11_bought_46] at hf
      refine lv_iload hx hb dX11_bought_46 (lv_at hl 6 rfl) ?_
      refine lv_aload_n hx hb dX11_bought_48 rfl (lv_at hl 0 rfl) ?_
      obtain ⟨o8, go8, hf⟩ := bd_s hf
      refine ro_Vi (As := []) (rest := [.int x6]) ⟨hx, hb, hml, hown, hts⟩ (c_X11_lastStation l D K F hMo sMo o8 go8) (cwV 0 hts (gcV_X11_lastStation (mB28 _ (List.mem_of_getElem? (i := 11) rfl))) rfl rfl rfl hdV_X11_lastStation ⟨Nat.le_of_ble_eq_true rfl, Nat.le_of_ble_eq_true rfl⟩) hK hP hS hP (va_recv hK hP (ci := 10) (q0 := 0) rfl o_Mo) rfl hl.1 rfl (Nat.le_of_ble_eq_true rfl) dX11_bought_49 ⟨Nat.zero_le _, Nat.zero_le _⟩ (fun H locs hP hS => ?_)
      refine lv_icmp_ge (tgt := 86) hx hb dX11_bought_52 (by decide) (fun c9 => ?_) (fun c9 => ?_)
      · have hf := it_t hf c9
        exact w86 x5 x6 H locs ls hf hP hS (lv_sub hl [0, 2, 3, 5, 6] rfl)
      · have hf := it_f hf c9
        refine lv_aload_n hx hb dX11_bought_55 rfl (lv_at hl 0 rfl) ?_
        refine lv_iload hx hb dX11_bought_56 (lv_at hl 6 rfl) ?_
        obtain ⟨o10, go10, hf⟩ := bd_s hf
        refine ro_Vi (As := [.int x6]) (rest := []) ⟨hx, hb, hml, hown, hts⟩ (c_X11_priceAt l D K F hMo sMo x6 o10 go10) (cwV 1 hts (gcV_X11_priceAt (mB31 _ (List.mem_of_getElem? (i := 0) rfl))) rfl rfl rfl hdV_X11_priceAt ⟨Nat.le_of_ble_eq_true rfl, Nat.le_of_ble_eq_true rfl⟩) hK hP hS hP (va_recv hK hP (ci := 10) (q0 := 0) rfl o_Mo) rfl hl.1 rfl (Nat.le_of_ble_eq_true rfl) dX11_bought_58 ⟨Nat.zero_le _, Nat.zero_le _⟩ (fun H locs hP hS => ?_)
        refine lv_if_eq (tgt := 80) hx hb dX11_bought_61 (by decide) (fun c11 => ?_) (fun c11 => ?_)
        · have hf := it_t hf c11
          exact w80 (f_X11_bought_46 F sMo p1 p2 p3 p4 n) ih x5 x6 H locs ls hf hP hS (lv_sub hl [0, 1, 2, 3, 4, 5, 6] rfl)
        · have hf := it_f hf c11
          refine lv_iload_n hx hb dX11_bought_64 rfl (lv_at hl 1 rfl) ?_
          refine lv_iconst (v := (1 : Int32)) hx hb dX11_bought_65 (by decide) ?_
          refine lv_icmp_ne (tgt := 86) hx hb dX11_bought_66 (by decide) (fun c12 => ?_) (fun c12 => ?_)
          · have hf := it_f hf c12
            exact w86 x5 x6 H locs ls hf hP hS (lv_sub hl [0, 2, 3, 5, 6] rfl)
          · have hf := it_t hf c12
            refine lv_aload_n hx hb dX11_bought_69 rfl (lv_at hl 0 rfl) ?_
            refine lv_iload hx hb dX11_bought_70 (lv_at hl 6 rfl) ?_
            obtain ⟨o13, go13, hf⟩ := bd_s hf
            refine ro_Vi (As := [.int x6]) (rest := []) ⟨hx, hb, hml, hown, hts⟩ (c_X11_priceAt l D K F hMo sMo x6 o13 go13) (cwV 1 hts (gcV_X11_priceAt (mB31 _ (List.mem_of_getElem? (i := 0) rfl))) rfl rfl rfl hdV_X11_priceAt ⟨Nat.le_of_ble_eq_true rfl, Nat.le_of_ble_eq_true rfl⟩) hK hP hS hP (va_recv hK hP (ci := 10) (q0 := 0) rfl o_Mo) rfl hl.1 rfl (Nat.le_of_ble_eq_true rfl) dX11_bought_72 ⟨Nat.zero_le _, Nat.zero_le _⟩ (fun H locs hP hS => ?_)
            refine lv_iload hx hb dX11_bought_75 (lv_at hl 4 rfl) ?_
            refine lv_icmp_lt (tgt := 86) hx hb dX11_bought_77 (by decide) (fun c14 => ?_) (fun c14 => ?_)
            · have hf := it_t hf c14
              exact w86 x5 x6 H locs ls hf hP hS (lv_sub hl [0, 2, 3, 5, 6] rfl)
            · have hf := it_f hf c14
              exact w80 (f_X11_bought_46 F sMo p1 p2 p3 p4 n) ih x5 x6 H locs ls hf hP hS (lv_sub hl [0, 1, 2, 3, 4, 5, 6] rfl)
  have hen : entryFrame m args 8 = entryFrame m (([.ref (hMo 99), .int p1, .int p2, .int p3, .int p4] : List Value).toArray) 8 := by rw [hargs]
  have hl := lv_entry ([.ref (hMo 99), .int p1, .int p2, .int p3, .int p4]) (n := 8) (Nat.le_of_ble_eq_true rfl)
  rw [hen, lg_entry_eq]
  generalize (lg_sl ([.ref (hMo 99), .int p1, .int p2, .int p3, .int p4]) ++ List.replicate (8 - (lg_sl ([.ref (hMo 99), .int p1, .int p2, .int p3, .int p4])).length) Slot.unset).toArray = ls at hl ⊢
  have hl : lv_has ls 8 [(0, .ref (hMo 99)), (1, .int p1), (2, .int p2), (3, .int p3), (4, .int p4)] := hl
  unfold f_X11_bought at hf
  obtain ⟨H, hHe⟩ : ∃ z, z = s.heap := ⟨_, rfl⟩
  obtain ⟨locs, hLe⟩ : ∃ z : List Loc, z = [] := ⟨_, rfl⟩
  rw [← hLe]
  have hS : va_S nOne s.heap H locs := by rw [hHe, hLe]; exact hS
  have hP : va_P D vwCl (wMo K hMo sMo) H := by rw [hHe]; exact hP
  have hgo : W p l e (headSpec wz_X11_bought r_X11_bought).room s m args below meth c H locs 0 0 Q (F0 m 0 ls []) := by
    refine lv_aload_n hx hb dX11_bought_0 rfl (lv_at hl 0 rfl) ?_
    refine va_get (D := D) (ci := 10) (v := .ref (hMo 15)) (C := RX11) (T := TX11) (N := 41) hx hb hts iX11 hown hK hP 0 o_Mo rfl 15 (by decide) (htl _ (mB6 _ (List.mem_of_getElem? (i := 3) rfl))) (fun _ h9 => h9) rfl dX11_bought_1 ?_
    refine lv_iconst (v := (0 : Int32)) hx hb dX11_bought_4 (by decide) ?_
    obtain ⟨g1, hf⟩ := gd_s hf
    refine va_iald hx hb hK hP 3 0 (f := sMo.2.2.1 15) a_Mo_15 rfl (vpb_in g1) dX11_bought_5 ?_
    refine lv_topi (fun v2 ev2 => ?_)
    have hf := lz_s hf v2 ev2
    refine lv_iload_n hx hb dX11_bought_6 rfl (lv_at hl 3 rfl) ?_
    refine lv_isub hx hb dX11_bought_7 ?_
    refine lv_istore (lv' := [(5, .int (v2 - p3)), (0, .ref (hMo 99)), (1, .int p1), (2, .int p2), (3, .int p3), (4, .int p4)]) hx hb dX11_bought_8 hl (by decide) rfl (fun ls hl => ?_)
    refine lv_iload_n hx hb dX11_bought_10 rfl (lv_at hl 2 rfl) ?_
    refine lv_if_ne (tgt := 17) hx hb dX11_bought_11 (by decide) (fun c3 => ?_) (fun c3 => ?_)
    · have hf := it_f hf c3
      refine lv_iload_n hx hb dX11_bought_17 rfl (lv_at hl 2 rfl) ?_
      refine lv_iconst (v := (2 : Int32)) hx hb dX11_bought_18 (by decide) ?_
      refine lv_icmp_le (tgt := 41) hx hb dX11_bought_19 (by decide) (fun c4 => ?_) (fun c4 => ?_)
      · have hf := it_t hf c4
        refine lv_iload_n hx hb dX11_bought_41 rfl (lv_at hl 3 rfl) ?_
        refine lv_iconst (v := (1 : Int32)) hx hb dX11_bought_42 (by decide) ?_
        refine lv_iadd hx hb dX11_bought_43 ?_
        refine lv_istore (lv' := [(6, .int (p2 + (1 : Int32))), (5, .int (v2 - p3)), (0, .ref (hMo 99)), (1, .int p1), (2, .int p2), (3, .int p3), (4, .int p4)]) hx hb dX11_bought_44 hl (by decide) rfl (fun ls hl => ?_)
        exact w46 F (v2 - p3) (p2 + (1 : Int32)) H locs ls hf hP hS (lv_sub hl [2, 3, 4, 5, 6, 1, 0] rfl)
      · have hf := it_f hf c4
        refine lv_iconst (v := (2 : Int32)) hx hb dX11_bought_22 (by decide) ?_
        refine lv_iload_n hx hb dX11_bought_23 rfl (lv_at hl 4 rfl) ?_
        refine lv_imul hx hb dX11_bought_24 ?_
        refine lv_aload_n hx hb dX11_bought_25 rfl (lv_at hl 1 rfl) ?_
        refine va_get (D := D) (ci := 10) (v := .ref (hMo 15)) (C := RX11) (T := TX11) (N := 41) hx hb hts iX11 hown hK hP 0 o_Mo rfl 15 (by decide) (htl _ (mB6 _ (List.mem_of_getElem? (i := 3) rfl))) (fun _ h9 => h9) rfl dX11_bought_26 ?_
        refine lv_iconst (v := (0 : Int32)) hx hb dX11_bought_29 (by decide) ?_
        obtain ⟨g5, hf⟩ := gd_s hf
        refine va_iald hx hb hK hP 3 0 (f := sMo.2.2.1 15) a_Mo_15 rfl (vpb_in g5) dX11_bought_30 ?_
        refine lv_topi (fun v6 ev6 => ?_)
        have hf := lz_s hf v6 ev6
        refine lv_icmp_ge (tgt := 39) hx hb dX11_bought_31 (by decide) (fun c7 => ?_) (fun c7 => ?_)
        · have hf := it_t hf c7
          refine lv_iconst (v := (0 : Int32)) hx hb dX11_bought_39 (by decide) ?_
          have e9 := Option.some.inj hf
          rw [hQ]
          exact W.iret (v := (0 : Int32)) hx hb hr (fun t ht hW => ⟨⟨(0 : Int32), (), rfl, e9, trivial⟩, hS.F ht⟩) hS.2.2 dX11_bought_40
        · have hf := it_f hf c7
          refine lv_iload hx hb dX11_bought_34 (lv_at hl 0 rfl) ?_
          refine lv_goto (tgt := 40) hx hb dX11_bought_36 (by decide) ?_
          have e9 := Option.some.inj hf
          rw [hQ]
          exact W.iret (v := (v2 - p3)) hx hb hr (fun t ht hW => ⟨⟨(v2 - p3), (), rfl, e9, trivial⟩, hS.F ht⟩) hS.2.2 dX11_bought_40
    · have hf := it_t hf c3
      refine lv_iload hx hb dX11_bought_14 (lv_at hl 0 rfl) ?_
      have e9 := Option.some.inj hf
      rw [hQ]
      exact W.iret (v := (v2 - p3)) hx hb hr (fun t ht hW => ⟨⟨(v2 - p3), (), rfl, e9, trivial⟩, hS.F ht⟩) hS.2.2 dX11_bought_16
  rw [hHe] at hgo
  exact hgo

def wz_X11_pumpWhy : List Cond := .code yX11_pumpWhy cX11_pumpWhy 4 (some .int) :: wsL_law
abbrev r_X11_pumpWhy : Room := { frames := 3, cells := 0, slots := 0, locals := 64 }
set_option maxHeartbeats 4000000 in
set_option maxRecDepth 100000 in
theorem c_X11_pumpWhy (l : Launch) (D : va_G) (K : Nat → ClassId) (F : Nat) (hMo : Nat → Nat) (sMo : MS) (p1 : Int32) (p2 : Int32) (p3 : Int32) (res : Int32) (hf : f_X11_pumpWhy F sMo p1 p2 p3 = some res) : Met l yX11_pumpWhy wz_X11_pumpWhy r_X11_pumpWhy (va_Pc [.ref (hMo 99), .int p1, .int p2, .int p3] (PR D K (wMo K hMo sMo))) (va_Qi (fun r (_ : Unit) => r = res) BN nOne) 0 0 nOne := by
  refine Met.ofW (cc := cX11_pumpWhy) (maxL := 4) (ret := (some .int)) (by decide) rfl ?_
  intro p e s m args below meth c s₁ B hml hv
  obtain ⟨hargs, hP, hK⟩ := hv
  have hx := B.exec
  have hb := B.bytes
  have hr := B.returns
  have hts := atoms_spec (ws := wz_X11_pumpWhy) B.pre
  have htl : ∀ w ∈ wsL_law, w.before args s = true := fun w h => hts w (List.mem_cons_of_mem _ h)
  have hown : s.vm.findClass RX11 = some m.cls := findClass_of_methodNamed B.named
  have hlocks := B.notSynchronized
  have hS : va_S nOne s.heap s.heap [] := va_S.rf
  have iX11 : ∀ w ∈ wsX110, w ∈ wz_X11_pumpWhy := fun w h => List.mem_cons_of_mem _ (inlX11 w h)
  suffices hgo : ∀ Q : State → Prop, Q = MQ below (va_Qi (fun r (_ : Unit) => r = res) BN nOne) args s 0 0 nOne → W p l e (headSpec wz_X11_pumpWhy r_X11_pumpWhy).room s m args below meth c s.heap [] 0 0 Q (entryFrame m args 4) from hgo _ rfl
  intro Q hQ
  have w41 : ∀ (y1 : Int32), ∀ (y2 : Int32), ∀ (H : Heap) (locs : List Loc) (ls : Array Slot), f_X11_pumpWhy_41 F sMo p1 p2 p3 y1 y2 = some res → va_P D vwCl (wMo K hMo sMo) H → va_S nOne s.heap H locs → lv_has ls 4 [] → W p l e (headSpec wz_X11_pumpWhy r_X11_pumpWhy).room s m args below meth c H locs 0 0 Q (F0 m 41 ls [.int y2, .int y1, .ref (hMo 99)]) := by
    intro y1 y2 H locs ls hf hP hS hl
    unfold f_X11_pumpWhy_41 at hf
    obtain ⟨o9, go9, hf⟩ := bd_s hf
    refine ro_Vi (As := [.int y1, .int y2]) (rest := []) ⟨hx, hb, hml, hown, hts⟩ (c_X11_pumpOf l D K F hMo sMo y1 y2 o9 go9) (cwV 2 hts (gcV_X11_pumpOf (mB23 _ (List.mem_of_getElem? (i := 9) rfl))) rfl rfl rfl hdV_X11_pumpOf ⟨Nat.le_of_ble_eq_true rfl, Nat.le_of_ble_eq_true rfl⟩) hK hP hS hP (va_recv hK hP (ci := 10) (q0 := 0) rfl o_Mo) rfl hl.1 rfl (Nat.le_of_ble_eq_true rfl) dX11_pumpWhy_41 ⟨Nat.zero_le _, Nat.zero_le _⟩ (fun H locs hP hS => ?_)
    refine lv_if_ne (tgt := 52) hx hb dX11_pumpWhy_44 (by decide) (fun c10 => ?_) (fun c10 => ?_)
    · have hf := it_f hf c10
      refine lv_iconst (v := (0 : Int32)) hx hb dX11_pumpWhy_52 (by decide) ?_
      have e9 := Option.some.inj hf
      rw [hQ]
      exact W.iret (v := (0 : Int32)) hx hb hr (fun t ht hW => ⟨⟨(0 : Int32), (), rfl, e9, trivial⟩, hS.F ht⟩) hS.2.2 dX11_pumpWhy_53
    · have hf := it_t hf c10
      refine lv_bipush (v := (6 : Int32)) hx hb dX11_pumpWhy_47 (by decide) ?_
      refine lv_goto (tgt := 53) hx hb dX11_pumpWhy_49 (by decide) ?_
      have e9 := Option.some.inj hf
      rw [hQ]
      exact W.iret (v := (6 : Int32)) hx hb hr (fun t ht hW => ⟨⟨(6 : Int32), (), rfl, e9, trivial⟩, hS.F ht⟩) hS.2.2 dX11_pumpWhy_53
  have hen : entryFrame m args 4 = entryFrame m (([.ref (hMo 99), .int p1, .int p2, .int p3] : List Value).toArray) 4 := by rw [hargs]
  have hl := lv_entry ([.ref (hMo 99), .int p1, .int p2, .int p3]) (n := 4) (Nat.le_of_ble_eq_true rfl)
  rw [hen, lg_entry_eq]
  generalize (lg_sl ([.ref (hMo 99), .int p1, .int p2, .int p3]) ++ List.replicate (4 - (lg_sl ([.ref (hMo 99), .int p1, .int p2, .int p3])).length) Slot.unset).toArray = ls at hl ⊢
  have hl : lv_has ls 4 [(0, .ref (hMo 99)), (1, .int p1), (2, .int p2), (3, .int p3)] := hl
  unfold f_X11_pumpWhy at hf
  obtain ⟨H, hHe⟩ : ∃ z, z = s.heap := ⟨_, rfl⟩
  obtain ⟨locs, hLe⟩ : ∃ z : List Loc, z = [] := ⟨_, rfl⟩
  rw [← hLe]
  have hS : va_S nOne s.heap H locs := by rw [hHe, hLe]; exact hS
  have hP : va_P D vwCl (wMo K hMo sMo) H := by rw [hHe]; exact hP
  have hgo : W p l e (headSpec wz_X11_pumpWhy r_X11_pumpWhy).room s m args below meth c H locs 0 0 Q (F0 m 0 ls []) := by
    refine lv_aload_n hx hb dX11_pumpWhy_0 rfl (lv_at hl 0 rfl) ?_
    refine lv_iload_n hx hb dX11_pumpWhy_1 rfl (lv_at hl 1 rfl) ?_
    obtain ⟨o1, go1, hf⟩ := bd_s hf
    refine ro_Vi (As := [.int p1]) (rest := []) ⟨hx, hb, hml, hown, hts⟩ (c_X11_isStop l D K F hMo sMo p1 o1 go1) (cwV 1 hts (gcV_X11_isStop (mB29 _ (List.mem_of_getElem? (i := 12) rfl))) rfl rfl rfl hdV_X11_isStop ⟨Nat.le_of_ble_eq_true rfl, Nat.le_of_ble_eq_true rfl⟩) hK hP hS hP (va_recv hK hP (ci := 10) (q0 := 0) rfl o_Mo) rfl hl.1 rfl (Nat.le_of_ble_eq_true rfl) dX11_pumpWhy_2 ⟨Nat.zero_le _, Nat.zero_le _⟩ (fun H locs hP hS => ?_)
    refine lv_if_ne (tgt := 10) hx hb dX11_pumpWhy_5 (by decide) (fun c2 => ?_) (fun c2 => ?_)
    · have hf := it_f hf c2
      refine lv_iload_n hx hb dX11_pumpWhy_10 rfl (lv_at hl 2 rfl) ?_
      refine lv_iconst (v := (0 : Int32)) hx hb dX11_pumpWhy_11 (by decide) ?_
      refine lv_aload_n hx hb dX11_pumpWhy_12 rfl (lv_at hl 0 rfl) ?_
      refine va_get (D := D) (ci := 10) (v := .ref (hMo 15)) (C := RX11) (T := TX11) (N := 41) hx hb hts iX11 hown hK hP 0 o_Mo rfl 15 (by decide) (htl _ (mB6 _ (List.mem_of_getElem? (i := 3) rfl))) (fun _ h9 => h9) rfl dX11_pumpWhy_13 ?_
      refine lv_iconst (v := (0 : Int32)) hx hb dX11_pumpWhy_16 (by decide) ?_
      obtain ⟨g3, hf⟩ := gd_s hf
      refine va_iald hx hb hK hP 3 0 (f := sMo.2.2.1 15) a_Mo_15 rfl (vpb_in g3) dX11_pumpWhy_17 ?_
      refine lv_topi (fun v4 ev4 => ?_)
      have hf := lz_s hf v4 ev4
      obtain ⟨o5, go5, hf⟩ := bd_s hf
      refine ro_Si (As := [.int p2, .int (0 : Int32), .int v4]) (rest := []) ⟨hx, hb, hml, hown, hts⟩ (c_X11_in l D K F p2 (0 : Int32) v4 o5 go5) (va_cwS 3 hts (gcS_X11_in (mB18 _ (List.mem_of_getElem? (i := 12) rfl))) rfl rfl rfl hdS_X11_in ⟨Nat.le_of_ble_eq_true rfl, Nat.le_of_ble_eq_true rfl⟩) hK hP hS va_Pnil rfl hl.1 rfl (Nat.le_of_ble_eq_true rfl) dX11_pumpWhy_18 ⟨Nat.zero_le _, Nat.zero_le _⟩ (fun H locs hP hS => ?_)
      refine lv_if_ne (tgt := 26) hx hb dX11_pumpWhy_21 (by decide) (fun c6 => ?_) (fun c6 => ?_)
      · have hf := it_f hf c6
        refine lv_aload_n hx hb dX11_pumpWhy_26 rfl (lv_at hl 0 rfl) ?_
        refine lv_aload_n hx hb dX11_pumpWhy_27 rfl (lv_at hl 0 rfl) ?_
        refine lv_iload_n hx hb dX11_pumpWhy_28 rfl (lv_at hl 1 rfl) ?_
        obtain ⟨o7, go7, hf⟩ := bd_s hf
        refine ro_Vi (As := [.int p1]) (rest := [.ref (hMo 99)]) ⟨hx, hb, hml, hown, hts⟩ (c_X11_placeOf l D K F hMo sMo p1 o7 go7) (cwV 1 hts (gcV_X11_placeOf (mB26 _ (List.mem_of_getElem? (i := 19) rfl))) rfl rfl rfl hdV_X11_placeOf ⟨Nat.le_of_ble_eq_true rfl, Nat.le_of_ble_eq_true rfl⟩) hK hP hS hP (va_recv hK hP (ci := 10) (q0 := 0) rfl o_Mo) rfl hl.1 rfl (Nat.le_of_ble_eq_true rfl) dX11_pumpWhy_29 ⟨Nat.zero_le _, Nat.zero_le _⟩ (fun H locs hP hS => ?_)
        refine lv_iload_n hx hb dX11_pumpWhy_32 rfl (lv_at hl 3 rfl) ?_
        refine lv_if_eq (tgt := 40) hx hb dX11_pumpWhy_33 (by decide) (fun c8 => ?_) (fun c8 => ?_)
        · have hf := it_t hf c8
          refine lv_iconst (v := (0 : Int32)) hx hb dX11_pumpWhy_40 (by decide) ?_
          exact w41 o7 (0 : Int32) H locs ls hf hP hS (lv_sub hl [] rfl)
        · have hf := it_f hf c8
          refine lv_iconst (v := (1 : Int32)) hx hb dX11_pumpWhy_36 (by decide) ?_
          refine lv_goto (tgt := 41) hx hb dX11_pumpWhy_37 (by decide) ?_
          exact w41 o7 (1 : Int32) H locs ls hf hP hS (lv_sub hl [] rfl)
      · have hf := it_t hf c6
        refine lv_iconst (v := (2 : Int32)) hx hb dX11_pumpWhy_24 (by decide) ?_
        have e9 := Option.some.inj hf
        rw [hQ]
        exact W.iret (v := (2 : Int32)) hx hb hr (fun t ht hW => ⟨⟨(2 : Int32), (), rfl, e9, trivial⟩, hS.F ht⟩) hS.2.2 dX11_pumpWhy_25
    · have hf := it_t hf c2
      refine lv_iconst (v := (1 : Int32)) hx hb dX11_pumpWhy_8 (by decide) ?_
      have e9 := Option.some.inj hf
      rw [hQ]
      exact W.iret (v := (1 : Int32)) hx hb hr (fun t ht hW => ⟨⟨(1 : Int32), (), rfl, e9, trivial⟩, hS.F ht⟩) hS.2.2 dX11_pumpWhy_9
  rw [hHe] at hgo
  exact hgo

theorem gcV_X11_isRule {T0 : Cond} {own : String} {i : Nat} (h : Cond.methodLink own i yX11_isRule ∈ wsL_law) : GoodIn (T0 :: wsL_law) (wsV own i RX11 yX11_isRule wz_X11_isRule) := gV h (mB40 _ (List.mem_of_getElem? (i := 9) rfl)) (mB40 _ (List.mem_of_getElem? (i := 10) rfl)) (mB1 _ (List.mem_of_getElem? (i := 5) rfl)) (mB40 _ (List.mem_of_getElem? (i := 11) rfl))
theorem hdV_X11_isRule : yX11_isRule.cls = RX11 ∧ yX11_isRule.cls ≠ "java/lang/invoke/MethodHandle" ∧ yX11_isRule.cls ≠ "java/lang/invoke/VarHandle" ∧ (parseMethodDescriptor yX11_isRule.desc).map (fun d => d.parameters.length) = some 1 := by decide +kernel
theorem gcV_X11_pumpWhy {T0 : Cond} {own : String} {i : Nat} (h : Cond.methodLink own i yX11_pumpWhy ∈ wsL_law) : GoodIn (T0 :: wsL_law) (wsV own i RX11 yX11_pumpWhy wz_X11_pumpWhy) := gV h (mB40 _ (List.mem_of_getElem? (i := 13) rfl)) (mB40 _ (List.mem_of_getElem? (i := 14) rfl)) (mB1 _ (List.mem_of_getElem? (i := 5) rfl)) (mB40 _ (List.mem_of_getElem? (i := 15) rfl))
theorem hdV_X11_pumpWhy : yX11_pumpWhy.cls = RX11 ∧ yX11_pumpWhy.cls ≠ "java/lang/invoke/MethodHandle" ∧ yX11_pumpWhy.cls ≠ "java/lang/invoke/VarHandle" ∧ (parseMethodDescriptor yX11_pumpWhy.desc).map (fun d => d.parameters.length) = some 3 := by decide +kernel
theorem gcV_X11_bought {T0 : Cond} {own : String} {i : Nat} (h : Cond.methodLink own i yX11_bought ∈ wsL_law) : GoodIn (T0 :: wsL_law) (wsV own i RX11 yX11_bought wz_X11_bought) := gV h (mB40 _ (List.mem_of_getElem? (i := 17) rfl)) (mB40 _ (List.mem_of_getElem? (i := 18) rfl)) (mB1 _ (List.mem_of_getElem? (i := 5) rfl)) (mB40 _ (List.mem_of_getElem? (i := 19) rfl))
theorem hdV_X11_bought : yX11_bought.cls = RX11 ∧ yX11_bought.cls ≠ "java/lang/invoke/MethodHandle" ∧ yX11_bought.cls ≠ "java/lang/invoke/VarHandle" ∧ (parseMethodDescriptor yX11_bought.desc).map (fun d => d.parameters.length) = some 4 := by decide +kernel
def wz_X11_buys : List Cond := .code yX11_buys cX11_buys 6 (some .int) :: wsL_law
abbrev r_X11_buys : Room := { frames := 4, cells := 0, slots := 0, locals := 94 }
set_option maxHeartbeats 4000000 in
set_option maxRecDepth 100000 in
theorem c_X11_buys (l : Launch) (D : va_G) (K : Nat → ClassId) (F : Nat) (hMo : Nat → Nat) (sz : Nat) (sMo : MS) (p1 : Int32) (p2 : Int32) (p3 : Int32) (p4 : Int32) (res : Int32 × MS) (hf : f_X11_buys F p1 p2 p3 p4 sMo = some res) : Met l yX11_buys wz_X11_buys r_X11_buys (va_Pc [.ref (hMo 99), .int p1, .int p2, .int p3, .int p4] (PW D K (wMo K hMo sMo) sz)) (va_Qi (fun r u => r = res.1 ∧ u = res.2) (fun u t => BW D K (va_A (wMo K hMo sMo) sz) (wMo K hMo u) t) (va_A (wMo K hMo sMo) sz)) 0 0 (va_A (wMo K hMo sMo) sz) := by
  refine Met.ofW (cc := cX11_buys) (maxL := 6) (ret := (some .int)) (by decide) rfl ?_
  intro p e s m args below meth c s₁ B hml hv
  obtain ⟨hargs, hsz, hP, hK, hD0⟩ := hv
  have hx := B.exec
  have hb := B.bytes
  have hr := B.returns
  have hts := atoms_spec (ws := wz_X11_buys) B.pre
  have htl : ∀ w ∈ wsL_law, w.before args s = true := fun w h => hts w (List.mem_cons_of_mem _ h)
  have hown : s.vm.findClass RX11 = some m.cls := findClass_of_methodNamed B.named
  have hlocks := B.notSynchronized
  subst hsz
  have hD := hD0.self (sz := s.heap.size)
  generalize hAe : va_A (wMo K hMo sMo) s.heap.size = A at hD ⊢
  have hA : ∀ q : Nat, s.heap.size ≤ q → A q := fun q h => by rw [← hAe]; exact Or.inr h
  have hS : va_S A s.heap s.heap [] := va_S.rf
  suffices hgo : ∀ Q : State → Prop, Q = MQ below (va_Qi (fun r u => r = res.1 ∧ u = res.2) (fun u t => BW D K A (wMo K hMo u) t) A) args s 0 0 A → W p l e (headSpec wz_X11_buys r_X11_buys).room s m args below meth c s.heap [] 0 0 Q (entryFrame m args 6) from hgo _ rfl
  intro Q hQ
  have w62 : ∀ (y1 : Int32), ∀ (y2 : Int32), ∀ (y3 : Int32), ∀ (y5 : Int32), ∀ (y6 : Int32), ∀ (sMo : MS), ∀ (H : Heap) (locs : List Loc) (ls : Array Slot), f_X11_buys_62 F p1 p2 p3 p4 y1 y2 y3 y5 y6 sMo = some res → va_P D vwCl (wMo K hMo sMo) H → va_D A (wMo K hMo sMo) → va_S A s.heap H locs → lv_has ls 6 [] → W p l e (headSpec wz_X11_buys r_X11_buys).room s m args below meth c H locs 0 0 Q (F0 m 62 ls [.int y6, .int y5, .ref (hMo 99), .int y3, .int y2, .int y1, .ref (hMo 99)]) := by
    intro y1 y2 y3 y5 y6 sMo H locs ls hf hP hD hS hl
    unfold f_X11_buys_62 at hf
    obtain ⟨o10, go10, hf⟩ := bd_s hf
    refine ro_Vi (As := [.int y5, .int y6]) (rest := [.int y3, .int y2, .int y1, .ref (hMo 99)]) ⟨hx, hb, hml, hown, hts⟩ (c_X11_pumpOf l D K F hMo sMo y5 y6 o10 go10) (cwV 2 hts (gcV_X11_pumpOf (mB23 _ (List.mem_of_getElem? (i := 9) rfl))) rfl rfl rfl hdV_X11_pumpOf ⟨Nat.le_of_ble_eq_true rfl, Nat.le_of_ble_eq_true rfl⟩) hK hP hS hP (va_recv hK hP (ci := 10) (q0 := 0) rfl o_Mo) rfl hl.1 rfl (Nat.le_of_ble_eq_true rfl) dX11_buys_62 ⟨Nat.zero_le _, Nat.zero_le _⟩ (fun H locs hP hS => ?_)
    obtain ⟨o11, go11, hf⟩ := bd_s hf
    refine ro_Vi (As := [.int y1, .int y2, .int y3, .int o10]) (rest := []) ⟨hx, hb, hml, hown, hts⟩ (c_X11_bought l D K F hMo sMo y1 y2 y3 o10 o11 go11) (cwV 4 hts (gcV_X11_bought (mB40 _ (List.mem_of_getElem? (i := 16) rfl))) rfl rfl rfl hdV_X11_bought ⟨Nat.le_of_ble_eq_true rfl, Nat.le_of_ble_eq_true rfl⟩) hK hP hS hP (va_recv hK hP (ci := 10) (q0 := 0) rfl o_Mo) rfl hl.1 rfl (Nat.le_of_ble_eq_true rfl) dX11_buys_65 ⟨Nat.zero_le _, Nat.zero_le _⟩ (fun H locs hP hS => ?_)
    have e9 := Option.some.inj hf
    rw [hQ]
    exact W.iret (v := o11) hx hb hr (fun t ht hW => ⟨⟨o11, sMo, rfl, ⟨pr1 e9, pr2 e9⟩, ⟨by rw [ht]; exact hP, va_K.moved hW.alike hK, hD⟩⟩, hS.F ht⟩) hS.2.2 dX11_buys_68
  have hen : entryFrame m args 6 = entryFrame m (([.ref (hMo 99), .int p1, .int p2, .int p3, .int p4] : List Value).toArray) 6 := by rw [hargs]
  have hl := lv_entry ([.ref (hMo 99), .int p1, .int p2, .int p3, .int p4]) (n := 6) (Nat.le_of_ble_eq_true rfl)
  rw [hen, lg_entry_eq]
  generalize (lg_sl ([.ref (hMo 99), .int p1, .int p2, .int p3, .int p4]) ++ List.replicate (6 - (lg_sl ([.ref (hMo 99), .int p1, .int p2, .int p3, .int p4])).length) Slot.unset).toArray = ls at hl ⊢
  have hl : lv_has ls 6 [(0, .ref (hMo 99)), (1, .int p1), (2, .int p2), (3, .int p3), (4, .int p4)] := hl
  unfold f_X11_buys at hf
  obtain ⟨H, hHe⟩ : ∃ z, z = s.heap := ⟨_, rfl⟩
  obtain ⟨locs, hLe⟩ : ∃ z : List Loc, z = [] := ⟨_, rfl⟩
  rw [← hLe]
  have hS : va_S A s.heap H locs := by rw [hHe, hLe]; exact hS
  have hP : va_P D vwCl (wMo K hMo sMo) H := by rw [hHe]; exact hP
  have hgo : W p l e (headSpec wz_X11_buys r_X11_buys).room s m args below meth c H locs 0 0 Q (F0 m 0 ls []) := by
    refine lv_aload_n hx hb dX11_buys_0 rfl (lv_at hl 0 rfl) ?_
    obtain ⟨o1, go1, hf⟩ := bd_s hf
    refine rs_Vv (As := []) (rest := []) ⟨hx, hb, hml, hown, hts⟩ (c_X11_good l D K F hMo H.size sMo o1 go1) (cwV 0 hts (gcV_X11_good (mB18 _ (List.mem_of_getElem? (i := 7) rfl))) rfl rfl rfl hdV_X11_good ⟨Nat.le_of_ble_eq_true rfl, Nat.le_of_ble_eq_true rfl⟩) hK hP hD hS hA (va_recv hK hP (ci := 10) (q0 := 0) rfl o_Mo) rfl hl.1 rfl (Nat.le_of_ble_eq_true rfl) dX11_buys_1 ⟨Nat.zero_le _, Nat.zero_le _⟩ (fun H locs hP hD hS => ?_)
    have hP : va_P D vwCl (wMo K hMo o1) H := hP
    have hD : va_D A (wMo K hMo o1) := hD
    refine lv_aload_n hx hb dX11_buys_4 rfl (lv_at hl 0 rfl) ?_
    refine lv_iload_n hx hb dX11_buys_5 rfl (lv_at hl 1 rfl) ?_
    obtain ⟨o2, go2, hf⟩ := bd_s hf
    refine ro_Vi (As := [.int p1]) (rest := []) ⟨hx, hb, hml, hown, hts⟩ (c_X11_isRule l D K F hMo o1 p1 o2 go2) (cwV 1 hts (gcV_X11_isRule (mB40 _ (List.mem_of_getElem? (i := 8) rfl))) rfl rfl rfl hdV_X11_isRule ⟨Nat.le_of_ble_eq_true rfl, Nat.le_of_ble_eq_true rfl⟩) hK hP hS hP (va_recv hK hP (ci := 10) (q0 := 0) rfl o_Mo) rfl hl.1 rfl (Nat.le_of_ble_eq_true rfl) dX11_buys_6 ⟨Nat.zero_le _, Nat.zero_le _⟩ (fun H locs hP hS => ?_)
    refine lv_if_ne (tgt := 18) hx hb dX11_buys_9 (by decide) (fun c3 => ?_) (fun c3 => ?_)
    · have hf := it_f hf c3
      refine lv_aload_n hx hb dX11_buys_18 rfl (lv_at hl 0 rfl) ?_
      refine lv_iload_n hx hb dX11_buys_19 rfl (lv_at hl 2 rfl) ?_
      refine lv_iload_n hx hb dX11_buys_20 rfl (lv_at hl 3 rfl) ?_
      refine lv_iload hx hb dX11_buys_21 (lv_at hl 4 rfl) ?_
      obtain ⟨o4, go4, hf⟩ := bd_s hf
      refine ro_Vi (As := [.int p2, .int p3, .int p4]) (rest := []) ⟨hx, hb, hml, hown, hts⟩ (c_X11_pumpWhy l D K F hMo o1 p2 p3 p4 o4 go4) (cwV 3 hts (gcV_X11_pumpWhy (mB40 _ (List.mem_of_getElem? (i := 12) rfl))) rfl rfl rfl hdV_X11_pumpWhy ⟨Nat.le_of_ble_eq_true rfl, Nat.le_of_ble_eq_true rfl⟩) hK hP hS hP (va_recv hK hP (ci := 10) (q0 := 0) rfl o_Mo) rfl hl.1 rfl (Nat.le_of_ble_eq_true rfl) dX11_buys_23 ⟨Nat.zero_le _, Nat.zero_le _⟩ (fun H locs hP hS => ?_)
      refine lv_istore (lv' := [(5, .int o4), (0, .ref (hMo 99)), (1, .int p1), (2, .int p2), (3, .int p3), (4, .int p4)]) hx hb dX11_buys_26 hl (by decide) rfl (fun ls hl => ?_)
      refine lv_iload hx hb dX11_buys_28 (lv_at hl 0 rfl) ?_
      refine lv_if_eq (tgt := 42) hx hb dX11_buys_30 (by decide) (fun c5 => ?_) (fun c5 => ?_)
      · have hf := it_t hf c5
        refine lv_aload_n hx hb dX11_buys_42 rfl (lv_at hl 1 rfl) ?_
        refine lv_iload_n hx hb dX11_buys_43 rfl (lv_at hl 2 rfl) ?_
        refine lv_iload_n hx hb dX11_buys_44 rfl (lv_at hl 3 rfl) ?_
        refine lv_iload_n hx hb dX11_buys_45 rfl (lv_at hl 4 rfl) ?_
        refine lv_aload_n hx hb dX11_buys_46 rfl (lv_at hl 1 rfl) ?_
        refine lv_aload_n hx hb dX11_buys_47 rfl (lv_at hl 1 rfl) ?_
        refine lv_iload_n hx hb dX11_buys_48 rfl (lv_at hl 3 rfl) ?_
        obtain ⟨o6, go6, hf⟩ := bd_s hf
        refine ro_Vi (As := [.int p2]) (rest := [.ref (hMo 99), .int p3, .int p2, .int p1, .ref (hMo 99)]) ⟨hx, hb, hml, hown, hts⟩ (c_X11_placeOf l D K F hMo o1 p2 o6 go6) (cwV 1 hts (gcV_X11_placeOf (mB26 _ (List.mem_of_getElem? (i := 19) rfl))) rfl rfl rfl hdV_X11_placeOf ⟨Nat.le_of_ble_eq_true rfl, Nat.le_of_ble_eq_true rfl⟩) hK hP hS hP (va_recv hK hP (ci := 10) (q0 := 0) rfl o_Mo) rfl hl.1 rfl (Nat.le_of_ble_eq_true rfl) dX11_buys_49 ⟨Nat.zero_le _, Nat.zero_le _⟩ (fun H locs hP hS => ?_)
        refine lv_iload hx hb dX11_buys_52 (lv_at hl 5 rfl) ?_
        refine lv_if_eq (tgt := 61) hx hb dX11_buys_54 (by decide) (fun c7 => ?_) (fun c7 => ?_)
        · have hf := it_t hf c7
          refine lv_iconst (v := (0 : Int32)) hx hb dX11_buys_61 (by decide) ?_
          exact w62 p1 p2 p3 o6 (0 : Int32) o1 H locs ls hf hP hD hS (lv_sub hl [] rfl)
        · have hf := it_f hf c7
          refine lv_iconst (v := (1 : Int32)) hx hb dX11_buys_57 (by decide) ?_
          refine lv_goto (tgt := 62) hx hb dX11_buys_58 (by decide) ?_
          exact w62 p1 p2 p3 o6 (1 : Int32) o1 H locs ls hf hP hD hS (lv_sub hl [] rfl)
      · have hf := it_f hf c5
        refine lv_aload_n hx hb dX11_buys_33 rfl (lv_at hl 1 rfl) ?_
        refine lv_iload hx hb dX11_buys_34 (lv_at hl 0 rfl) ?_
        obtain ⟨o8, go8, hf⟩ := bd_s hf
        refine rs_Vi (As := [.int o4]) (rest := []) ⟨hx, hb, hml, hown, hts⟩ (c_X11_no l D K F hMo H.size o1 o4 o8 go8) (cwV 1 hts (gcV_X11_no (mB18 _ (List.mem_of_getElem? (i := 15) rfl))) rfl rfl rfl hdV_X11_no ⟨Nat.le_of_ble_eq_true rfl, Nat.le_of_ble_eq_true rfl⟩) hK hP hD hS hA (va_recv hK hP (ci := 10) (q0 := 0) rfl o_Mo) rfl hl.1 rfl (Nat.le_of_ble_eq_true rfl) dX11_buys_36 ⟨Nat.zero_le _, Nat.zero_le _⟩ (fun H locs hP hD hS => ?_)
        have hP : va_P D vwCl (wMo K hMo o8.2) H := hP
        have hD : va_D A (wMo K hMo o8.2) := hD
        refine lv_goto (tgt := 68) hx hb dX11_buys_39 (by decide) ?_
        have e9 := Option.some.inj hf
        rw [hQ]
        exact W.iret (v := o8.1) hx hb hr (fun t ht hW => ⟨⟨o8.1, o8.2, rfl, ⟨pr1 e9, pr2 e9⟩, ⟨by rw [ht]; exact hP, va_K.moved hW.alike hK, hD⟩⟩, hS.F ht⟩) hS.2.2 dX11_buys_68
    · have hf := it_t hf c3
      refine lv_aload_n hx hb dX11_buys_12 rfl (lv_at hl 0 rfl) ?_
      refine lv_iconst (v := (1 : Int32)) hx hb dX11_buys_13 (by decide) ?_
      obtain ⟨o9, go9, hf⟩ := bd_s hf
      refine rs_Vi (As := [.int (1 : Int32)]) (rest := []) ⟨hx, hb, hml, hown, hts⟩ (c_X11_no l D K F hMo H.size o1 (1 : Int32) o9 go9) (cwV 1 hts (gcV_X11_no (mB18 _ (List.mem_of_getElem? (i := 15) rfl))) rfl rfl rfl hdV_X11_no ⟨Nat.le_of_ble_eq_true rfl, Nat.le_of_ble_eq_true rfl⟩) hK hP hD hS hA (va_recv hK hP (ci := 10) (q0 := 0) rfl o_Mo) rfl hl.1 rfl (Nat.le_of_ble_eq_true rfl) dX11_buys_14 ⟨Nat.zero_le _, Nat.zero_le _⟩ (fun H locs hP hD hS => ?_)
      have hP : va_P D vwCl (wMo K hMo o9.2) H := hP
      have hD : va_D A (wMo K hMo o9.2) := hD
      have e9 := Option.some.inj hf
      rw [hQ]
      exact W.iret (v := o9.1) hx hb hr (fun t ht hW => ⟨⟨o9.1, o9.2, rfl, ⟨pr1 e9, pr2 e9⟩, ⟨by rw [ht]; exact hP, va_K.moved hW.alike hK, hD⟩⟩, hS.F ht⟩) hS.2.2 dX11_buys_17
  rw [hHe] at hgo
  exact hgo

def wz_X11_paidBy : List Cond := .code yX11_paidBy cX11_paidBy 6 (some .int) :: wsL_law
abbrev r_X11_paidBy : Room := { frames := 4, cells := 0, slots := 0, locals := 94 }
set_option maxHeartbeats 4000000 in
set_option maxRecDepth 100000 in
theorem c_X11_paidBy (l : Launch) (D : va_G) (K : Nat → ClassId) (F : Nat) (hMo : Nat → Nat) (sz : Nat) (sMo : MS) (p1 : Int32) (res : Int32 × MS) (hf : f_X11_paidBy F p1 sMo = some res) : Met l yX11_paidBy wz_X11_paidBy r_X11_paidBy (va_Pc [.ref (hMo 99), .int p1] (PW D K (wMo K hMo sMo) sz)) (va_Qi (fun r u => r = res.1 ∧ u = res.2) (fun u t => BW D K (va_A (wMo K hMo sMo) sz) (wMo K hMo u) t) (va_A (wMo K hMo sMo) sz)) 0 0 (va_A (wMo K hMo sMo) sz) := by
  refine Met.ofW (cc := cX11_paidBy) (maxL := 6) (ret := (some .int)) (by decide) rfl ?_
  intro p e s m args below meth c s₁ B hml hv
  obtain ⟨hargs, hsz, hP, hK, hD0⟩ := hv
  have hx := B.exec
  have hb := B.bytes
  have hr := B.returns
  have hts := atoms_spec (ws := wz_X11_paidBy) B.pre
  have htl : ∀ w ∈ wsL_law, w.before args s = true := fun w h => hts w (List.mem_cons_of_mem _ h)
  have hown : s.vm.findClass RX11 = some m.cls := findClass_of_methodNamed B.named
  have hlocks := B.notSynchronized
  subst hsz
  have hD := hD0.self (sz := s.heap.size)
  generalize hAe : va_A (wMo K hMo sMo) s.heap.size = A at hD ⊢
  have hA : ∀ q : Nat, s.heap.size ≤ q → A q := fun q h => by rw [← hAe]; exact Or.inr h
  have hS : va_S A s.heap s.heap [] := va_S.rf
  have iX11 : ∀ w ∈ wsX110, w ∈ wz_X11_paidBy := fun w h => List.mem_cons_of_mem _ (inlX11 w h)
  suffices hgo : ∀ Q : State → Prop, Q = MQ below (va_Qi (fun r u => r = res.1 ∧ u = res.2) (fun u t => BW D K A (wMo K hMo u) t) A) args s 0 0 A → W p l e (headSpec wz_X11_paidBy r_X11_paidBy).room s m args below meth c s.heap [] 0 0 Q (entryFrame m args 6) from hgo _ rfl
  intro Q hQ
  have w102 : ∀ (x4 : Int32), ∀ (sMo : MS), ∀ (H : Heap) (locs : List Loc) (ls : Array Slot), f_X11_paidBy_102 F p1 x4 sMo = some res → va_P D vwCl (wMo K hMo sMo) H → va_D A (wMo K hMo sMo) → va_S A s.heap H locs → lv_has ls 6 [(0, .ref (hMo 99)), (4, .int x4)] → W p l e (headSpec wz_X11_paidBy r_X11_paidBy).room s m args below meth c H locs 0 0 Q (F0 m 102 ls []) := by
    intro x4 sMo H locs ls hf hP hD hS hl
    unfold f_X11_paidBy_102 at hf
    refine lv_aload_n hx hb dX11_paidBy_102 rfl (lv_at hl 0 rfl) ?_
    refine lv_iload hx hb dX11_paidBy_103 (lv_at hl 1 rfl) ?_
    refine va_put (D := D) (ci := 10) (v := .int x4) (ty := .int) (C := RX11) (T := TX11) (N := 41) hx hb hts iX11 tyX11 tyX11_ok nmX11 hown hK hP hD hS 0 o_Mo rfl 26 (by decide) (htl _ (mB42 _ (List.mem_of_getElem? (i := 3) rfl))) (fun _ h9 => h9) rfl (by decide +kernel) rfl rfl (Nat.le_of_ble_eq_true rfl) dX11_paidBy_105 (fun H locs hP hD hS => ?_)
    have hP := cvP si_Mo_26 hP
    have hD := cvD si_Mo_26 hD
    obtain ⟨s17, es17⟩ : ∃ z, z = sI sMo 26 x4 := ⟨_, rfl⟩
    have hP : va_P D vwCl (wMo K hMo s17) H := by rw [es17]; exact hP
    have hD : va_D A (wMo K hMo s17) := by rw [es17]; exact hD
    have hf := lz_s hf s17 es17
    refine lv_bipush (v := (-2 : Int32)) hx hb dX11_paidBy_108 (by decide) ?_
    have e9 := Option.some.inj hf
    rw [hQ]
    exact W.iret (v := (-2 : Int32)) hx hb hr (fun t ht hW => ⟨⟨(-2 : Int32), s17, rfl, ⟨pr1 e9, pr2 e9⟩, ⟨by rw [ht]; exact hP, va_K.moved hW.alike hK, hD⟩⟩, hS.F ht⟩) hS.2.2 dX11_paidBy_110
  have w81 : ∀ (k17 : Int32 → Int32 → Int32 → MS → Option (Int32 × MS)), (∀ (x2 : Int32), ∀ (x3 : Int32), ∀ (x4 : Int32), ∀ (sMo : MS), ∀ (H : Heap) (locs : List Loc) (ls : Array Slot), k17 x2 x3 x4 sMo = some res → va_P D vwCl (wMo K hMo sMo) H → va_D A (wMo K hMo sMo) → va_S A s.heap H locs → lv_has ls 6 [(0, .ref (hMo 99)), (1, .int p1), (2, .int x2), (3, .int x3), (4, .int x4)] → W p l e (headSpec wz_X11_paidBy r_X11_paidBy).room s m args below meth c H locs 0 0 Q (F0 m 17 ls [])) → ∀ (x2 : Int32), ∀ (x4 : Int32), ∀ (x5 : Int32), ∀ (y0 : Int32), ∀ (y1 : Int32), ∀ (sMo : MS), ∀ (H : Heap) (locs : List Loc) (ls : Array Slot), f_X11_paidBy_81 F p1 k17 x2 x4 x5 y0 y1 sMo = some res → va_P D vwCl (wMo K hMo sMo) H → va_D A (wMo K hMo sMo) → va_S A s.heap H locs → lv_has ls 6 [(0, .ref (hMo 99)), (1, .int p1), (2, .int x2), (4, .int x4), (5, .int x5)] → W p l e (headSpec wz_X11_paidBy r_X11_paidBy).room s m args below meth c H locs 0 0 Q (F0 m 81 ls [.int y1, .int y0]) := by
    intro k17 hk17 x2 x4 x5 y0 y1 sMo H locs ls hf hP hD hS hl
    unfold f_X11_paidBy_81 at hf
    refine lv_iadd hx hb dX11_paidBy_81 ?_
    refine lv_istore_n (lv' := [(3, .int (y0 + y1)), (0, .ref (hMo 99)), (1, .int p1), (2, .int x2), (4, .int x4), (5, .int x5)]) hx hb dX11_paidBy_82 rfl hl (by decide) rfl (fun ls hl => ?_)
    refine lv_iload_n hx hb dX11_paidBy_83 rfl (lv_at hl 3 rfl) ?_
    refine lv_iload hx hb dX11_paidBy_84 (lv_at hl 5 rfl) ?_
    refine lv_aload_n hx hb dX11_paidBy_86 rfl (lv_at hl 1 rfl) ?_
    refine lv_iload hx hb dX11_paidBy_87 (lv_at hl 4 rfl) ?_
    obtain ⟨o14, go14, hf⟩ := bd_s hf
    refine ro_Vi (As := [.int x4]) (rest := [.int x5, .int x2]) ⟨hx, hb, hml, hown, hts⟩ (c_X11_leg l D K F hMo sMo x4 o14 go14) (cwV 1 hts (gcV_X11_leg (mB27 _ (List.mem_of_getElem? (i := 15) rfl))) rfl rfl rfl hdV_X11_leg ⟨Nat.le_of_ble_eq_true rfl, Nat.le_of_ble_eq_true rfl⟩) hK hP hS hP (va_recv hK hP (ci := 10) (q0 := 0) rfl o_Mo) rfl hl.1 rfl (Nat.le_of_ble_eq_true rfl) dX11_paidBy_89 ⟨Nat.zero_le _, Nat.zero_le _⟩ (fun H locs hP hS => ?_)
    refine lv_isub hx hb dX11_paidBy_92 ?_
    refine lv_iadd hx hb dX11_paidBy_93 ?_
    refine lv_istore_n (lv' := [(2, .int (x2 + (x5 - o14))), (3, .int (y0 + y1)), (0, .ref (hMo 99)), (1, .int p1), (4, .int x4), (5, .int x5)]) hx hb dX11_paidBy_94 rfl hl (by decide) rfl (fun ls hl => ?_)
    refine lv_iload_n hx hb dX11_paidBy_95 rfl (lv_at hl 0 rfl) ?_
    refine lv_if_lt (tgt := 102) hx hb dX11_paidBy_96 (by decide) (fun c15 => ?_) (fun c15 => ?_)
    · have hf := it_t hf c15
      exact w102 x4 sMo H locs ls hf hP hD hS (lv_sub hl [2, 4] rfl)
    · have hf := it_f hf c15
      refine lv_goto (tgt := 111) hx hb dX11_paidBy_99 (by decide) ?_
      obtain ⟨v16, ev16⟩ : ∃ z : Int32, z = x4 + (1 : Int32) := ⟨_, rfl⟩
      have hf := lz_s hf v16 ev16
      refine lv_iinc (v := v16) (lv' := [(4, .int v16), (2, .int (x2 + (x5 - o14))), (3, .int (y0 + y1)), (0, .ref (hMo 99)), (1, .int p1), (5, .int x5)]) hx hb dX11_paidBy_111 hl (k := 4) rfl (by rw [ev16]; rfl) (by decide) rfl (fun ls hl => ?_)
      refine lv_goto (tgt := 17) hx hb dX11_paidBy_114 (by decide) ?_
      exact hk17 (x2 + (x5 - o14)) (y0 + y1) v16 sMo H locs ls hf hP hD hS (lv_sub hl [3, 4, 1, 2, 0] rfl)
  have w53 : ∀ (k17 : Int32 → Int32 → Int32 → MS → Option (Int32 × MS)), (∀ (x2 : Int32), ∀ (x3 : Int32), ∀ (x4 : Int32), ∀ (sMo : MS), ∀ (H : Heap) (locs : List Loc) (ls : Array Slot), k17 x2 x3 x4 sMo = some res → va_P D vwCl (wMo K hMo sMo) H → va_D A (wMo K hMo sMo) → va_S A s.heap H locs → lv_has ls 6 [(0, .ref (hMo 99)), (1, .int p1), (2, .int x2), (3, .int x3), (4, .int x4)] → W p l e (headSpec wz_X11_paidBy r_X11_paidBy).room s m args below meth c H locs 0 0 Q (F0 m 17 ls [])) → ∀ (x2 : Int32), ∀ (x3 : Int32), ∀ (x4 : Int32), ∀ (y0 : Int32), ∀ (sMo : MS), ∀ (H : Heap) (locs : List Loc) (ls : Array Slot), f_X11_paidBy_53 F p1 k17 x2 x3 x4 y0 sMo = some res → va_P D vwCl (wMo K hMo sMo) H → va_D A (wMo K hMo sMo) → va_S A s.heap H locs → lv_has ls 6 [(0, .ref (hMo 99)), (1, .int p1), (2, .int x2), (3, .int x3), (4, .int x4)] → W p l e (headSpec wz_X11_paidBy r_X11_paidBy).room s m args below meth c H locs 0 0 Q (F0 m 53 ls [.int y0]) := by
    intro k17 hk17 x2 x3 x4 y0 sMo H locs ls hf hP hD hS hl
    unfold f_X11_paidBy_53 at hf
    refine lv_istore (lv' := [(5, .int y0), (0, .ref (hMo 99)), (1, .int p1), (2, .int x2), (3, .int x3), (4, .int x4)]) hx hb dX11_paidBy_53 hl (by decide) rfl (fun ls hl => ?_)
    refine lv_iload_n hx hb dX11_paidBy_55 rfl (lv_at hl 4 rfl) ?_
    refine lv_iload hx hb dX11_paidBy_56 (lv_at hl 0 rfl) ?_
    refine lv_if_ne (tgt := 65) hx hb dX11_paidBy_58 (by decide) (fun c10 => ?_) (fun c10 => ?_)
    · have hf := it_f hf c10
      refine lv_iload hx hb dX11_paidBy_65 (lv_at hl 0 rfl) ?_
      refine lv_aload_n hx hb dX11_paidBy_67 rfl (lv_at hl 1 rfl) ?_
      refine lv_iload hx hb dX11_paidBy_68 (lv_at hl 5 rfl) ?_
      obtain ⟨o11, go11, hf⟩ := bd_s hf
      refine ro_Vi (As := [.int x4]) (rest := [.int y0, .int x3]) ⟨hx, hb, hml, hown, hts⟩ (c_X11_priceAt l D K F hMo sMo x4 o11 go11) (cwV 1 hts (gcV_X11_priceAt (mB31 _ (List.mem_of_getElem? (i := 0) rfl))) rfl rfl rfl hdV_X11_priceAt ⟨Nat.le_of_ble_eq_true rfl, Nat.le_of_ble_eq_true rfl⟩) hK hP hS hP (va_recv hK hP (ci := 10) (q0 := 0) rfl o_Mo) rfl hl.1 rfl (Nat.le_of_ble_eq_true rfl) dX11_paidBy_70 ⟨Nat.zero_le _, Nat.zero_le _⟩ (fun H locs hP hS => ?_)
      refine lv_imul hx hb dX11_paidBy_73 ?_
      refine lv_aload_n hx hb dX11_paidBy_74 rfl (lv_at hl 1 rfl) ?_
      refine va_get (D := D) (ci := 10) (v := .ref (hMo 15)) (C := RX11) (T := TX11) (N := 41) hx hb hts iX11 hown hK hP 0 o_Mo rfl 15 (by decide) (htl _ (mB6 _ (List.mem_of_getElem? (i := 3) rfl))) (fun _ h9 => h9) rfl dX11_paidBy_75 ?_
      refine lv_iconst (v := (2 : Int32)) hx hb dX11_paidBy_78 (by decide) ?_
      obtain ⟨g12, hf⟩ := gd_s hf
      refine va_iald hx hb hK hP 3 0 (f := sMo.2.2.1 15) a_Mo_15 rfl (vpb_in g12) dX11_paidBy_79 ?_
      refine lv_topi (fun v13 ev13 => ?_)
      have hf := lz_s hf v13 ev13
      refine lv_iadd hx hb dX11_paidBy_80 ?_
      exact w81 k17 hk17 x2 x4 y0 x3 ((y0 * o11) + v13) sMo H locs ls hf hP hD hS (lv_sub hl [1, 2, 3, 5, 0] rfl)
    · have hf := it_t hf c10
      refine lv_iconst (v := (0 : Int32)) hx hb dX11_paidBy_61 (by decide) ?_
      refine lv_goto (tgt := 81) hx hb dX11_paidBy_62 (by decide) ?_
      exact w81 k17 hk17 x2 x4 y0 x3 (0 : Int32) sMo H locs ls hf hP hD hS (lv_sub hl [1, 2, 3, 5, 0] rfl)
  have w17 : ∀ (n : Nat), ∀ (x2 : Int32), ∀ (x3 : Int32), ∀ (x4 : Int32), ∀ (sMo : MS), ∀ (H : Heap) (locs : List Loc) (ls : Array Slot), f_X11_paidBy_17 F p1 n x2 x3 x4 sMo = some res → va_P D vwCl (wMo K hMo sMo) H → va_D A (wMo K hMo sMo) → va_S A s.heap H locs → lv_has ls 6 [(0, .ref (hMo 99)), (1, .int p1), (2, .int x2), (3, .int x3), (4, .int x4)] → W p l e (headSpec wz_X11_paidBy r_X11_paidBy).room s m args below meth c H locs 0 0 Q (F0 m 17 ls []) := by
    intro n
    induction n with
    | zero =>
      intro x2 x3 x4 sMo H locs ls hf
      exact absurd (show none = some res from hf) (fun h => nomatch h)
    | succ n ih =>
      intro x2 x3 x4 sMo H locs ls hf hP hD hS hl
      rw [f_X11_paidBy_17] at hf
      refine lv_iload hx hb dX11_paidBy_17 (lv_at hl 4 rfl) ?_
      refine lv_aload_n hx hb dX11_paidBy_19 rfl (lv_at hl 0 rfl) ?_
      obtain ⟨o4, go4, hf⟩ := bd_s hf
      refine ro_Vi (As := []) (rest := [.int x4]) ⟨hx, hb, hml, hown, hts⟩ (c_X11_lastStation l D K F hMo sMo o4 go4) (cwV 0 hts (gcV_X11_lastStation (mB28 _ (List.mem_of_getElem? (i := 11) rfl))) rfl rfl rfl hdV_X11_lastStation ⟨Nat.le_of_ble_eq_true rfl, Nat.le_of_ble_eq_true rfl⟩) hK hP hS hP (va_recv hK hP (ci := 10) (q0 := 0) rfl o_Mo) rfl hl.1 rfl (Nat.le_of_ble_eq_true rfl) dX11_paidBy_20 ⟨Nat.zero_le _, Nat.zero_le _⟩ (fun H locs hP hS => ?_)
      refine lv_icmp_ge (tgt := 117) hx hb dX11_paidBy_23 (by decide) (fun c5 => ?_) (fun c5 => ?_)
      · have hf := it_t hf c5
        refine lv_iload_n hx hb dX11_paidBy_117 rfl (lv_at hl 3 rfl) ?_
        have e9 := Option.some.inj hf
        rw [hQ]
        exact W.iret (v := x3) hx hb hr (fun t ht hW => ⟨⟨x3, sMo, rfl, ⟨pr1 e9, pr2 e9⟩, ⟨by rw [ht]; exact hP, va_K.moved hW.alike hK, hD⟩⟩, hS.F ht⟩) hS.2.2 dX11_paidBy_118
      · have hf := it_f hf c5
        refine lv_aload_n hx hb dX11_paidBy_26 rfl (lv_at hl 0 rfl) ?_
        refine lv_iload hx hb dX11_paidBy_27 (lv_at hl 4 rfl) ?_
        obtain ⟨o6, go6, hf⟩ := bd_s hf
        refine ro_Vi (As := [.int x4]) (rest := []) ⟨hx, hb, hml, hown, hts⟩ (c_X11_priceAt l D K F hMo sMo x4 o6 go6) (cwV 1 hts (gcV_X11_priceAt (mB31 _ (List.mem_of_getElem? (i := 0) rfl))) rfl rfl rfl hdV_X11_priceAt ⟨Nat.le_of_ble_eq_true rfl, Nat.le_of_ble_eq_true rfl⟩) hK hP hS hP (va_recv hK hP (ci := 10) (q0 := 0) rfl o_Mo) rfl hl.1 rfl (Nat.le_of_ble_eq_true rfl) dX11_paidBy_29 ⟨Nat.zero_le _, Nat.zero_le _⟩ (fun H locs hP hS => ?_)
        refine lv_if_ne (tgt := 39) hx hb dX11_paidBy_32 (by decide) (fun c7 => ?_) (fun c7 => ?_)
        · have hf := it_f hf c7
          refine lv_aload_n hx hb dX11_paidBy_39 rfl (lv_at hl 0 rfl) ?_
          refine lv_iload_n hx hb dX11_paidBy_40 rfl (lv_at hl 1 rfl) ?_
          refine lv_iload hx hb dX11_paidBy_41 (lv_at hl 4 rfl) ?_
          refine lv_iload_n hx hb dX11_paidBy_43 rfl (lv_at hl 2 rfl) ?_
          refine lv_aload_n hx hb dX11_paidBy_44 rfl (lv_at hl 0 rfl) ?_
          refine lv_iload hx hb dX11_paidBy_45 (lv_at hl 4 rfl) ?_
          obtain ⟨o8, go8, hf⟩ := bd_s hf
          refine ro_Vi (As := [.int x4]) (rest := [.int x2, .int x4, .int p1, .ref (hMo 99)]) ⟨hx, hb, hml, hown, hts⟩ (c_X11_priceAt l D K F hMo sMo x4 o8 go8) (cwV 1 hts (gcV_X11_priceAt (mB31 _ (List.mem_of_getElem? (i := 0) rfl))) rfl rfl rfl hdV_X11_priceAt ⟨Nat.le_of_ble_eq_true rfl, Nat.le_of_ble_eq_true rfl⟩) hK hP hS hP (va_recv hK hP (ci := 10) (q0 := 0) rfl o_Mo) rfl hl.1 rfl (Nat.le_of_ble_eq_true rfl) dX11_paidBy_47 ⟨Nat.zero_le _, Nat.zero_le _⟩ (fun H locs hP hS => ?_)
          obtain ⟨o9, go9, hf⟩ := bd_s hf
          refine ro_Vi (As := [.int p1, .int x4, .int x2, .int o8]) (rest := []) ⟨hx, hb, hml, hown, hts⟩ (c_X11_bought l D K F hMo sMo p1 x4 x2 o8 o9 go9) (cwV 4 hts (gcV_X11_bought (mB40 _ (List.mem_of_getElem? (i := 16) rfl))) rfl rfl rfl hdV_X11_bought ⟨Nat.le_of_ble_eq_true rfl, Nat.le_of_ble_eq_true rfl⟩) hK hP hS hP (va_recv hK hP (ci := 10) (q0 := 0) rfl o_Mo) rfl hl.1 rfl (Nat.le_of_ble_eq_true rfl) dX11_paidBy_50 ⟨Nat.zero_le _, Nat.zero_le _⟩ (fun H locs hP hS => ?_)
          exact w53 (f_X11_paidBy_17 F p1 n) ih x2 x3 x4 o9 sMo H locs ls hf hP hD hS (lv_sub hl [0, 1, 2, 3, 4] rfl)
        · have hf := it_t hf c7
          refine lv_iconst (v := (0 : Int32)) hx hb dX11_paidBy_35 (by decide) ?_
          refine lv_goto (tgt := 53) hx hb dX11_paidBy_36 (by decide) ?_
          exact w53 (f_X11_paidBy_17 F p1 n) ih x2 x3 x4 (0 : Int32) sMo H locs ls hf hP hD hS (lv_sub hl [0, 1, 2, 3, 4] rfl)
  have hen : entryFrame m args 6 = entryFrame m (([.ref (hMo 99), .int p1] : List Value).toArray) 6 := by rw [hargs]
  have hl := lv_entry ([.ref (hMo 99), .int p1]) (n := 6) (Nat.le_of_ble_eq_true rfl)
  rw [hen, lg_entry_eq]
  generalize (lg_sl ([.ref (hMo 99), .int p1]) ++ List.replicate (6 - (lg_sl ([.ref (hMo 99), .int p1])).length) Slot.unset).toArray = ls at hl ⊢
  have hl : lv_has ls 6 [(0, .ref (hMo 99)), (1, .int p1)] := hl
  unfold f_X11_paidBy at hf
  obtain ⟨H, hHe⟩ : ∃ z, z = s.heap := ⟨_, rfl⟩
  obtain ⟨locs, hLe⟩ : ∃ z : List Loc, z = [] := ⟨_, rfl⟩
  rw [← hLe]
  have hS : va_S A s.heap H locs := by rw [hHe, hLe]; exact hS
  have hP : va_P D vwCl (wMo K hMo sMo) H := by rw [hHe]; exact hP
  have hgo : W p l e (headSpec wz_X11_paidBy r_X11_paidBy).room s m args below meth c H locs 0 0 Q (F0 m 0 ls []) := by
    refine lv_aload_n hx hb dX11_paidBy_0 rfl (lv_at hl 0 rfl) ?_
    refine va_get (D := D) (ci := 10) (v := .ref (hMo 15)) (C := RX11) (T := TX11) (N := 41) hx hb hts iX11 hown hK hP 0 o_Mo rfl 15 (by decide) (htl _ (mB6 _ (List.mem_of_getElem? (i := 3) rfl))) (fun _ h9 => h9) rfl dX11_paidBy_1 ?_
    refine lv_iconst (v := (1 : Int32)) hx hb dX11_paidBy_4 (by decide) ?_
    obtain ⟨g1, hf⟩ := gd_s hf
    refine va_iald hx hb hK hP 3 0 (f := sMo.2.2.1 15) a_Mo_15 rfl (vpb_in g1) dX11_paidBy_5 ?_
    refine lv_topi (fun v2 ev2 => ?_)
    have hf := lz_s hf v2 ev2
    refine lv_istore_n (lv' := [(2, .int v2), (0, .ref (hMo 99)), (1, .int p1)]) hx hb dX11_paidBy_6 rfl hl (by decide) rfl (fun ls hl => ?_)
    refine lv_iconst (v := (0 : Int32)) hx hb dX11_paidBy_7 (by decide) ?_
    refine lv_istore_n (lv' := [(3, .int (0 : Int32)), (2, .int v2), (0, .ref (hMo 99)), (1, .int p1)]) hx hb dX11_paidBy_8 rfl hl (by decide) rfl (fun ls hl => ?_)
    refine lv_aload_n hx hb dX11_paidBy_9 rfl (lv_at hl 2 rfl) ?_
    refine lv_iconst (v := (-1 : Int32)) hx hb dX11_paidBy_10 (by decide) ?_
    refine va_put (D := D) (ci := 10) (v := .int (-1 : Int32)) (ty := .int) (C := RX11) (T := TX11) (N := 41) hx hb hts iX11 tyX11 tyX11_ok nmX11 hown hK hP hD hS 0 o_Mo rfl 26 (by decide) (htl _ (mB42 _ (List.mem_of_getElem? (i := 3) rfl))) (fun _ h9 => h9) rfl (by decide +kernel) rfl rfl (Nat.le_of_ble_eq_true rfl) dX11_paidBy_11 (fun H locs hP hD hS => ?_)
    have hP := cvP si_Mo_26 hP
    have hD := cvD si_Mo_26 hD
    obtain ⟨s3, es3⟩ : ∃ z, z = sI sMo 26 (-1 : Int32) := ⟨_, rfl⟩
    have hP : va_P D vwCl (wMo K hMo s3) H := by rw [es3]; exact hP
    have hD : va_D A (wMo K hMo s3) := by rw [es3]; exact hD
    have hf := lz_s hf s3 es3
    refine lv_iconst (v := (0 : Int32)) hx hb dX11_paidBy_14 (by decide) ?_
    refine lv_istore (lv' := [(4, .int (0 : Int32)), (3, .int (0 : Int32)), (2, .int v2), (0, .ref (hMo 99)), (1, .int p1)]) hx hb dX11_paidBy_15 hl (by decide) rfl (fun ls hl => ?_)
    exact w17 F v2 (0 : Int32) (0 : Int32) s3 H locs ls hf hP hD hS (lv_sub hl [3, 4, 2, 1, 0] rfl)
  rw [hHe] at hgo
  exact hgo

theorem gcV_X11_paidBy {T0 : Cond} {own : String} {i : Nat} (h : Cond.methodLink own i yX11_paidBy ∈ wsL_law) : GoodIn (T0 :: wsL_law) (wsV own i RX11 yX11_paidBy wz_X11_paidBy) := gV h (mB42 _ (List.mem_of_getElem? (i := 0) rfl)) (mB42 _ (List.mem_of_getElem? (i := 1) rfl)) (mB1 _ (List.mem_of_getElem? (i := 5) rfl)) (mB42 _ (List.mem_of_getElem? (i := 2) rfl))
theorem hdV_X11_paidBy : yX11_paidBy.cls = RX11 ∧ yX11_paidBy.cls ≠ "java/lang/invoke/MethodHandle" ∧ yX11_paidBy.cls ≠ "java/lang/invoke/VarHandle" ∧ (parseMethodDescriptor yX11_paidBy.desc).map (fun d => d.parameters.length) = some 1 := by decide +kernel
def wz_X11_byRule : List Cond := .code yX11_byRule cX11_byRule 2 (some .int) :: wsL_law
abbrev r_X11_byRule : Room := { frames := 5, cells := 0, slots := 0, locals := 119 }
set_option maxHeartbeats 4000000 in
set_option maxRecDepth 100000 in
theorem c_X11_byRule (l : Launch) (D : va_G) (K : Nat → ClassId) (F : Nat) (hMo : Nat → Nat) (sz : Nat) (sMo : MS) (p1 : Int32) (res : Int32 × MS) (hf : f_X11_byRule F p1 sMo = some res) : Met l yX11_byRule wz_X11_byRule r_X11_byRule (va_Pc [.ref (hMo 99), .int p1] (PW D K (wMo K hMo sMo) sz)) (va_Qi (fun r u => r = res.1 ∧ u = res.2) (fun u t => BW D K (va_A (wMo K hMo sMo) sz) (wMo K hMo u) t) (va_A (wMo K hMo sMo) sz)) 0 0 (va_A (wMo K hMo sMo) sz) := by
  refine Met.ofW (cc := cX11_byRule) (maxL := 2) (ret := (some .int)) (by decide) rfl ?_
  intro p e s m args below meth c s₁ B hml hv
  obtain ⟨hargs, hsz, hP, hK, hD0⟩ := hv
  have hx := B.exec
  have hb := B.bytes
  have hr := B.returns
  have hts := atoms_spec (ws := wz_X11_byRule) B.pre
  have htl : ∀ w ∈ wsL_law, w.before args s = true := fun w h => hts w (List.mem_cons_of_mem _ h)
  have hown : s.vm.findClass RX11 = some m.cls := findClass_of_methodNamed B.named
  have hlocks := B.notSynchronized
  subst hsz
  have hD := hD0.self (sz := s.heap.size)
  generalize hAe : va_A (wMo K hMo sMo) s.heap.size = A at hD ⊢
  have hA : ∀ q : Nat, s.heap.size ≤ q → A q := fun q h => by rw [← hAe]; exact Or.inr h
  have hS : va_S A s.heap s.heap [] := va_S.rf
  suffices hgo : ∀ Q : State → Prop, Q = MQ below (va_Qi (fun r u => r = res.1 ∧ u = res.2) (fun u t => BW D K A (wMo K hMo u) t) A) args s 0 0 A → W p l e (headSpec wz_X11_byRule r_X11_byRule).room s m args below meth c s.heap [] 0 0 Q (entryFrame m args 2) from hgo _ rfl
  intro Q hQ
  have hen : entryFrame m args 2 = entryFrame m (([.ref (hMo 99), .int p1] : List Value).toArray) 2 := by rw [hargs]
  have hl := lv_entry ([.ref (hMo 99), .int p1]) (n := 2) (Nat.le_of_ble_eq_true rfl)
  rw [hen, lg_entry_eq]
  generalize (lg_sl ([.ref (hMo 99), .int p1]) ++ List.replicate (2 - (lg_sl ([.ref (hMo 99), .int p1])).length) Slot.unset).toArray = ls at hl ⊢
  have hl : lv_has ls 2 [(0, .ref (hMo 99)), (1, .int p1)] := hl
  unfold f_X11_byRule at hf
  obtain ⟨H, hHe⟩ : ∃ z, z = s.heap := ⟨_, rfl⟩
  obtain ⟨locs, hLe⟩ : ∃ z : List Loc, z = [] := ⟨_, rfl⟩
  rw [← hLe]
  have hS : va_S A s.heap H locs := by rw [hHe, hLe]; exact hS
  have hP : va_P D vwCl (wMo K hMo sMo) H := by rw [hHe]; exact hP
  have hgo : W p l e (headSpec wz_X11_byRule r_X11_byRule).room s m args below meth c H locs 0 0 Q (F0 m 0 ls []) := by
    refine lv_aload_n hx hb dX11_byRule_0 rfl (lv_at hl 0 rfl) ?_
    obtain ⟨o1, go1, hf⟩ := bd_s hf
    refine rs_Vv (As := []) (rest := []) ⟨hx, hb, hml, hown, hts⟩ (c_X11_good l D K F hMo H.size sMo o1 go1) (cwV 0 hts (gcV_X11_good (mB18 _ (List.mem_of_getElem? (i := 7) rfl))) rfl rfl rfl hdV_X11_good ⟨Nat.le_of_ble_eq_true rfl, Nat.le_of_ble_eq_true rfl⟩) hK hP hD hS hA (va_recv hK hP (ci := 10) (q0 := 0) rfl o_Mo) rfl hl.1 rfl (Nat.le_of_ble_eq_true rfl) dX11_byRule_1 ⟨Nat.zero_le _, Nat.zero_le _⟩ (fun H locs hP hD hS => ?_)
    have hP : va_P D vwCl (wMo K hMo o1) H := hP
    have hD : va_D A (wMo K hMo o1) := hD
    refine lv_aload_n hx hb dX11_byRule_4 rfl (lv_at hl 0 rfl) ?_
    refine lv_iload_n hx hb dX11_byRule_5 rfl (lv_at hl 1 rfl) ?_
    obtain ⟨o2, go2, hf⟩ := bd_s hf
    refine ro_Vi (As := [.int p1]) (rest := []) ⟨hx, hb, hml, hown, hts⟩ (c_X11_isRule l D K F hMo o1 p1 o2 go2) (cwV 1 hts (gcV_X11_isRule (mB40 _ (List.mem_of_getElem? (i := 8) rfl))) rfl rfl rfl hdV_X11_isRule ⟨Nat.le_of_ble_eq_true rfl, Nat.le_of_ble_eq_true rfl⟩) hK hP hS hP (va_recv hK hP (ci := 10) (q0 := 0) rfl o_Mo) rfl hl.1 rfl (Nat.le_of_ble_eq_true rfl) dX11_byRule_6 ⟨Nat.zero_le _, Nat.zero_le _⟩ (fun H locs hP hS => ?_)
    refine lv_if_eq (tgt := 20) hx hb dX11_byRule_9 (by decide) (fun c3 => ?_) (fun c3 => ?_)
    · have hf := it_t hf c3
      refine lv_aload_n hx hb dX11_byRule_20 rfl (lv_at hl 0 rfl) ?_
      refine lv_iconst (v := (1 : Int32)) hx hb dX11_byRule_21 (by decide) ?_
      obtain ⟨o4, go4, hf⟩ := bd_s hf
      refine rs_Vi (As := [.int (1 : Int32)]) (rest := []) ⟨hx, hb, hml, hown, hts⟩ (c_X11_no l D K F hMo H.size o1 (1 : Int32) o4 go4) (cwV 1 hts (gcV_X11_no (mB18 _ (List.mem_of_getElem? (i := 15) rfl))) rfl rfl rfl hdV_X11_no ⟨Nat.le_of_ble_eq_true rfl, Nat.le_of_ble_eq_true rfl⟩) hK hP hD hS hA (va_recv hK hP (ci := 10) (q0 := 0) rfl o_Mo) rfl hl.1 rfl (Nat.le_of_ble_eq_true rfl) dX11_byRule_22 ⟨Nat.zero_le _, Nat.zero_le _⟩ (fun H locs hP hD hS => ?_)
      have hP : va_P D vwCl (wMo K hMo o4.2) H := hP
      have hD : va_D A (wMo K hMo o4.2) := hD
      have e9 := Option.some.inj hf
      rw [hQ]
      exact W.iret (v := o4.1) hx hb hr (fun t ht hW => ⟨⟨o4.1, o4.2, rfl, ⟨pr1 e9, pr2 e9⟩, ⟨by rw [ht]; exact hP, va_K.moved hW.alike hK, hD⟩⟩, hS.F ht⟩) hS.2.2 dX11_byRule_25
    · have hf := it_f hf c3
      refine lv_aload_n hx hb dX11_byRule_12 rfl (lv_at hl 0 rfl) ?_
      refine lv_iload_n hx hb dX11_byRule_13 rfl (lv_at hl 1 rfl) ?_
      obtain ⟨o5, go5, hf⟩ := bd_s hf
      refine rs_Vi (As := [.int p1]) (rest := []) ⟨hx, hb, hml, hown, hts⟩ (c_X11_paidBy l D K F hMo H.size o1 p1 o5 go5) (cwV 1 hts (gcV_X11_paidBy (mB41 _ (List.mem_of_getElem? (i := 23) rfl))) rfl rfl rfl hdV_X11_paidBy ⟨Nat.le_of_ble_eq_true rfl, Nat.le_of_ble_eq_true rfl⟩) hK hP hD hS hA (va_recv hK hP (ci := 10) (q0 := 0) rfl o_Mo) rfl hl.1 rfl (Nat.le_of_ble_eq_true rfl) dX11_byRule_14 ⟨Nat.zero_le _, Nat.zero_le _⟩ (fun H locs hP hD hS => ?_)
      have hP : va_P D vwCl (wMo K hMo o5.2) H := hP
      have hD : va_D A (wMo K hMo o5.2) := hD
      refine lv_goto (tgt := 25) hx hb dX11_byRule_17 (by decide) ?_
      have e9 := Option.some.inj hf
      rw [hQ]
      exact W.iret (v := o5.1) hx hb hr (fun t ht hW => ⟨⟨o5.1, o5.2, rfl, ⟨pr1 e9, pr2 e9⟩, ⟨by rw [ht]; exact hP, va_K.moved hW.alike hK, hD⟩⟩, hS.F ht⟩) hS.2.2 dX11_byRule_25
  rw [hHe] at hgo
  exact hgo

def wz_X11_stuckAt : List Cond := .code yX11_stuckAt cX11_stuckAt 2 (some .int) :: wsL_law
abbrev r_X11_stuckAt : Room := { frames := 5, cells := 0, slots := 0, locals := 119 }
set_option maxHeartbeats 4000000 in
set_option maxRecDepth 100000 in
theorem c_X11_stuckAt (l : Launch) (D : va_G) (K : Nat → ClassId) (F : Nat) (hMo : Nat → Nat) (sz : Nat) (sMo : MS) (p1 : Int32) (res : Int32 × MS) (hf : f_X11_stuckAt F p1 sMo = some res) : Met l yX11_stuckAt wz_X11_stuckAt r_X11_stuckAt (va_Pc [.ref (hMo 99), .int p1] (PW D K (wMo K hMo sMo) sz)) (va_Qi (fun r u => r = res.1 ∧ u = res.2) (fun u t => BW D K (va_A (wMo K hMo sMo) sz) (wMo K hMo u) t) (va_A (wMo K hMo sMo) sz)) 0 0 (va_A (wMo K hMo sMo) sz) := by
  refine Met.ofW (cc := cX11_stuckAt) (maxL := 2) (ret := (some .int)) (by decide) rfl ?_
  intro p e s m args below meth c s₁ B hml hv
  obtain ⟨hargs, hsz, hP, hK, hD0⟩ := hv
  have hx := B.exec
  have hb := B.bytes
  have hr := B.returns
  have hts := atoms_spec (ws := wz_X11_stuckAt) B.pre
  have htl : ∀ w ∈ wsL_law, w.before args s = true := fun w h => hts w (List.mem_cons_of_mem _ h)
  have hown : s.vm.findClass RX11 = some m.cls := findClass_of_methodNamed B.named
  have hlocks := B.notSynchronized
  subst hsz
  have hD := hD0.self (sz := s.heap.size)
  generalize hAe : va_A (wMo K hMo sMo) s.heap.size = A at hD ⊢
  have hA : ∀ q : Nat, s.heap.size ≤ q → A q := fun q h => by rw [← hAe]; exact Or.inr h
  have hS : va_S A s.heap s.heap [] := va_S.rf
  have iX11 : ∀ w ∈ wsX110, w ∈ wz_X11_stuckAt := fun w h => List.mem_cons_of_mem _ (inlX11 w h)
  suffices hgo : ∀ Q : State → Prop, Q = MQ below (va_Qi (fun r u => r = res.1 ∧ u = res.2) (fun u t => BW D K A (wMo K hMo u) t) A) args s 0 0 A → W p l e (headSpec wz_X11_stuckAt r_X11_stuckAt).room s m args below meth c s.heap [] 0 0 Q (entryFrame m args 2) from hgo _ rfl
  intro Q hQ
  have hen : entryFrame m args 2 = entryFrame m (([.ref (hMo 99), .int p1] : List Value).toArray) 2 := by rw [hargs]
  have hl := lv_entry ([.ref (hMo 99), .int p1]) (n := 2) (Nat.le_of_ble_eq_true rfl)
  rw [hen, lg_entry_eq]
  generalize (lg_sl ([.ref (hMo 99), .int p1]) ++ List.replicate (2 - (lg_sl ([.ref (hMo 99), .int p1])).length) Slot.unset).toArray = ls at hl ⊢
  have hl : lv_has ls 2 [(0, .ref (hMo 99)), (1, .int p1)] := hl
  unfold f_X11_stuckAt at hf
  obtain ⟨H, hHe⟩ : ∃ z, z = s.heap := ⟨_, rfl⟩
  obtain ⟨locs, hLe⟩ : ∃ z : List Loc, z = [] := ⟨_, rfl⟩
  rw [← hLe]
  have hS : va_S A s.heap H locs := by rw [hHe, hLe]; exact hS
  have hP : va_P D vwCl (wMo K hMo sMo) H := by rw [hHe]; exact hP
  have hgo : W p l e (headSpec wz_X11_stuckAt r_X11_stuckAt).room s m args below meth c H locs 0 0 Q (F0 m 0 ls []) := by
    refine lv_aload_n hx hb dX11_stuckAt_0 rfl (lv_at hl 0 rfl) ?_
    obtain ⟨o1, go1, hf⟩ := bd_s hf
    refine rs_Vv (As := []) (rest := []) ⟨hx, hb, hml, hown, hts⟩ (c_X11_good l D K F hMo H.size sMo o1 go1) (cwV 0 hts (gcV_X11_good (mB18 _ (List.mem_of_getElem? (i := 7) rfl))) rfl rfl rfl hdV_X11_good ⟨Nat.le_of_ble_eq_true rfl, Nat.le_of_ble_eq_true rfl⟩) hK hP hD hS hA (va_recv hK hP (ci := 10) (q0 := 0) rfl o_Mo) rfl hl.1 rfl (Nat.le_of_ble_eq_true rfl) dX11_stuckAt_1 ⟨Nat.zero_le _, Nat.zero_le _⟩ (fun H locs hP hD hS => ?_)
    have hP : va_P D vwCl (wMo K hMo o1) H := hP
    have hD : va_D A (wMo K hMo o1) := hD
    refine lv_aload_n hx hb dX11_stuckAt_4 rfl (lv_at hl 0 rfl) ?_
    refine lv_iload_n hx hb dX11_stuckAt_5 rfl (lv_at hl 1 rfl) ?_
    obtain ⟨o2, go2, hf⟩ := bd_s hf
    refine ro_Vi (As := [.int p1]) (rest := []) ⟨hx, hb, hml, hown, hts⟩ (c_X11_isRule l D K F hMo o1 p1 o2 go2) (cwV 1 hts (gcV_X11_isRule (mB40 _ (List.mem_of_getElem? (i := 8) rfl))) rfl rfl rfl hdV_X11_isRule ⟨Nat.le_of_ble_eq_true rfl, Nat.le_of_ble_eq_true rfl⟩) hK hP hS hP (va_recv hK hP (ci := 10) (q0 := 0) rfl o_Mo) rfl hl.1 rfl (Nat.le_of_ble_eq_true rfl) dX11_stuckAt_6 ⟨Nat.zero_le _, Nat.zero_le _⟩ (fun H locs hP hS => ?_)
    refine lv_if_ne (tgt := 18) hx hb dX11_stuckAt_9 (by decide) (fun c3 => ?_) (fun c3 => ?_)
    · have hf := it_f hf c3
      refine lv_aload_n hx hb dX11_stuckAt_18 rfl (lv_at hl 0 rfl) ?_
      refine lv_iload_n hx hb dX11_stuckAt_19 rfl (lv_at hl 1 rfl) ?_
      obtain ⟨o4, go4, hf⟩ := bd_s hf
      refine rs_Vi (As := [.int p1]) (rest := []) ⟨hx, hb, hml, hown, hts⟩ (c_X11_paidBy l D K F hMo H.size o1 p1 o4 go4) (cwV 1 hts (gcV_X11_paidBy (mB41 _ (List.mem_of_getElem? (i := 23) rfl))) rfl rfl rfl hdV_X11_paidBy ⟨Nat.le_of_ble_eq_true rfl, Nat.le_of_ble_eq_true rfl⟩) hK hP hD hS hA (va_recv hK hP (ci := 10) (q0 := 0) rfl o_Mo) rfl hl.1 rfl (Nat.le_of_ble_eq_true rfl) dX11_stuckAt_20 ⟨Nat.zero_le _, Nat.zero_le _⟩ (fun H locs hP hD hS => ?_)
      have hP : va_P D vwCl (wMo K hMo o4.2) H := hP
      have hD : va_D A (wMo K hMo o4.2) := hD
      refine lv_pop hx hb dX11_stuckAt_23 rfl ?_
      refine lv_aload_n hx hb dX11_stuckAt_24 rfl (lv_at hl 0 rfl) ?_
      refine va_get (D := D) (ci := 10) (v := .int (o4.2.1 26)) (C := RX11) (T := TX11) (N := 41) hx hb hts iX11 hown hK hP 0 o_Mo rfl 26 (by decide) (htl _ (mB42 _ (List.mem_of_getElem? (i := 3) rfl))) (fun _ h9 => h9) rfl dX11_stuckAt_25 ?_
      refine lv_if_ge (tgt := 36) hx hb dX11_stuckAt_28 (by decide) (fun c5 => ?_) (fun c5 => ?_)
      · have hf := it_t hf c5
        refine lv_aload_n hx hb dX11_stuckAt_36 rfl (lv_at hl 0 rfl) ?_
        refine va_get (D := D) (ci := 10) (v := .int (o4.2.1 26)) (C := RX11) (T := TX11) (N := 41) hx hb hts iX11 hown hK hP 0 o_Mo rfl 26 (by decide) (htl _ (mB42 _ (List.mem_of_getElem? (i := 3) rfl))) (fun _ h9 => h9) rfl dX11_stuckAt_37 ?_
        have e9 := Option.some.inj hf
        rw [hQ]
        exact W.iret (v := (o4.2.1 26)) hx hb hr (fun t ht hW => ⟨⟨(o4.2.1 26), o4.2, rfl, ⟨pr1 e9, pr2 e9⟩, ⟨by rw [ht]; exact hP, va_K.moved hW.alike hK, hD⟩⟩, hS.F ht⟩) hS.2.2 dX11_stuckAt_40
      · have hf := it_f hf c5
        refine lv_bipush (v := (-2 : Int32)) hx hb dX11_stuckAt_31 (by decide) ?_
        refine lv_goto (tgt := 40) hx hb dX11_stuckAt_33 (by decide) ?_
        have e9 := Option.some.inj hf
        rw [hQ]
        exact W.iret (v := (-2 : Int32)) hx hb hr (fun t ht hW => ⟨⟨(-2 : Int32), o4.2, rfl, ⟨pr1 e9, pr2 e9⟩, ⟨by rw [ht]; exact hP, va_K.moved hW.alike hK, hD⟩⟩, hS.F ht⟩) hS.2.2 dX11_stuckAt_40
    · have hf := it_t hf c3
      refine lv_aload_n hx hb dX11_stuckAt_12 rfl (lv_at hl 0 rfl) ?_
      refine lv_iconst (v := (1 : Int32)) hx hb dX11_stuckAt_13 (by decide) ?_
      obtain ⟨o6, go6, hf⟩ := bd_s hf
      refine rs_Vi (As := [.int (1 : Int32)]) (rest := []) ⟨hx, hb, hml, hown, hts⟩ (c_X11_no l D K F hMo H.size o1 (1 : Int32) o6 go6) (cwV 1 hts (gcV_X11_no (mB18 _ (List.mem_of_getElem? (i := 15) rfl))) rfl rfl rfl hdV_X11_no ⟨Nat.le_of_ble_eq_true rfl, Nat.le_of_ble_eq_true rfl⟩) hK hP hD hS hA (va_recv hK hP (ci := 10) (q0 := 0) rfl o_Mo) rfl hl.1 rfl (Nat.le_of_ble_eq_true rfl) dX11_stuckAt_14 ⟨Nat.zero_le _, Nat.zero_le _⟩ (fun H locs hP hD hS => ?_)
      have hP : va_P D vwCl (wMo K hMo o6.2) H := hP
      have hD : va_D A (wMo K hMo o6.2) := hD
      have e9 := Option.some.inj hf
      rw [hQ]
      exact W.iret (v := o6.1) hx hb hr (fun t ht hW => ⟨⟨o6.1, o6.2, rfl, ⟨pr1 e9, pr2 e9⟩, ⟨by rw [ht]; exact hP, va_K.moved hW.alike hK, hD⟩⟩, hS.F ht⟩) hS.2.2 dX11_stuckAt_17
  rw [hHe] at hgo
  exact hgo

def wz_X11_twenties : List Cond := .code yX11_twenties cX11_twenties 5 (some .long) :: wsL_law
abbrev r_X11_twenties : Room := { frames := 1, cells := 0, slots := 0, locals := 20 }
set_option maxHeartbeats 4000000 in
set_option maxRecDepth 100000 in
theorem c_X11_twenties (l : Launch) (D : va_G) (K : Nat → ClassId) (F : Nat) (hMo : Nat → Nat) (sMo : MS) (p1 : Int32) (res : Int64) (hf : f_X11_twenties F sMo p1 = some res) : Met l yX11_twenties wz_X11_twenties r_X11_twenties (va_Pc [.ref (hMo 99), .int p1] (PR D K (wMo K hMo sMo))) (va_Ql (fun r (_ : Unit) => r = res) BN nOne) 0 0 nOne := by
  refine Met.ofW (cc := cX11_twenties) (maxL := 5) (ret := (some .long)) (by decide) rfl ?_
  intro p e s m args below meth c s₁ B hml hv
  obtain ⟨hargs, hP, hK⟩ := hv
  have hx := B.exec
  have hb := B.bytes
  have hr := B.returns
  have hts := atoms_spec (ws := wz_X11_twenties) B.pre
  have htl : ∀ w ∈ wsL_law, w.before args s = true := fun w h => hts w (List.mem_cons_of_mem _ h)
  have hown : s.vm.findClass RX11 = some m.cls := findClass_of_methodNamed B.named
  have hlocks := B.notSynchronized
  have hS : va_S nOne s.heap s.heap [] := va_S.rf
  suffices hgo : ∀ Q : State → Prop, Q = MQ below (va_Ql (fun r (_ : Unit) => r = res) BN nOne) args s 0 0 nOne → W p l e (headSpec wz_X11_twenties r_X11_twenties).room s m args below meth c s.heap [] 0 0 Q (entryFrame m args 5) from hgo _ rfl
  intro Q hQ
  have w5 : ∀ (n : Nat), ∀ (x2 : Int64), ∀ (x4 : Int32), ∀ (H : Heap) (locs : List Loc) (ls : Array Slot), f_X11_twenties_5 F sMo p1 n x2 x4 = some res → va_P D vwCl (wMo K hMo sMo) H → va_S nOne s.heap H locs → lv_has ls 5 [(0, .ref (hMo 99)), (2, .long x2), (4, .int x4)] → W p l e (headSpec wz_X11_twenties r_X11_twenties).room s m args below meth c H locs 0 0 Q (F0 m 5 ls []) := by
    intro n
    induction n with
    | zero =>
      intro x2 x4 H locs ls hf
      exact absurd (show none = some res from hf) (fun h => nomatch h)
    | succ n ih =>
      intro x2 x4 H locs ls hf hP hS hl
      rw [f_X11_twenties_5] at hf
      refine lv_iload hx hb dX11_twenties_5 (lv_at hl 2 rfl) ?_
      refine lv_aload_n hx hb dX11_twenties_7 rfl (lv_at hl 0 rfl) ?_
      obtain ⟨o1, go1, hf⟩ := bd_s hf
      refine ro_Vi (As := []) (rest := [.int x4]) ⟨hx, hb, hml, hown, hts⟩ (c_X11_lastStation l D K F hMo sMo o1 go1) (cwV 0 hts (gcV_X11_lastStation (mB28 _ (List.mem_of_getElem? (i := 11) rfl))) rfl rfl rfl hdV_X11_lastStation ⟨Nat.le_of_ble_eq_true rfl, Nat.le_of_ble_eq_true rfl⟩) hK hP hS hP (va_recv hK hP (ci := 10) (q0 := 0) rfl o_Mo) rfl hl.1 rfl (Nat.le_of_ble_eq_true rfl) dX11_twenties_8 ⟨Nat.zero_le _, Nat.zero_le _⟩ (fun H locs hP hS => ?_)
      refine lv_icmp_ge (tgt := 26) hx hb dX11_twenties_11 (by decide) (fun c2 => ?_) (fun c2 => ?_)
      · have hf := it_t hf c2
        refine lv_lload_n hx hb dX11_twenties_26 rfl (lv_at hl 1 rfl) ?_
        have e9 := Option.some.inj hf
        rw [hQ]
        exact W.lret (v := x2) hx hb hr (fun t ht hW => ⟨⟨x2, (), rfl, e9, trivial⟩, hS.F ht⟩) hS.2.2 dX11_twenties_27
      · have hf := it_f hf c2
        refine lv_lload_n hx hb dX11_twenties_14 rfl (lv_at hl 1 rfl) ?_
        refine lv_ldc2 (v := (20 : Int64)) hx hb hown (htl _ (mB45 _ (List.mem_of_getElem? (i := 3) rfl))) dX11_twenties_15 ?_
        refine lv_lmul hx hb dX11_twenties_18 ?_
        refine lv_lstore_n (lv' := [(2, .long (x2 * (20 : Int64))), (0, .ref (hMo 99)), (4, .int x4)]) hx hb dX11_twenties_19 rfl hl (by decide) rfl (fun ls hl => ?_)
        obtain ⟨v3, ev3⟩ : ∃ z : Int32, z = x4 + (1 : Int32) := ⟨_, rfl⟩
        have hf := lz_s hf v3 ev3
        refine lv_iinc (v := v3) (lv' := [(4, .int v3), (2, .long (x2 * (20 : Int64))), (0, .ref (hMo 99))]) hx hb dX11_twenties_20 hl (k := 2) rfl (by rw [ev3]; rfl) (by decide) rfl (fun ls hl => ?_)
        refine lv_goto (tgt := 5) hx hb dX11_twenties_23 (by decide) ?_
        exact ih (x2 * (20 : Int64)) v3 H locs ls hf hP hS (lv_sub hl [2, 1, 0] rfl)
  have hen : entryFrame m args 5 = entryFrame m (([.ref (hMo 99), .int p1] : List Value).toArray) 5 := by rw [hargs]
  have hl := lv_entry ([.ref (hMo 99), .int p1]) (n := 5) (Nat.le_of_ble_eq_true rfl)
  rw [hen, lg_entry_eq]
  generalize (lg_sl ([.ref (hMo 99), .int p1]) ++ List.replicate (5 - (lg_sl ([.ref (hMo 99), .int p1])).length) Slot.unset).toArray = ls at hl ⊢
  have hl : lv_has ls 5 [(0, .ref (hMo 99)), (1, .int p1)] := hl
  unfold f_X11_twenties at hf
  obtain ⟨H, hHe⟩ : ∃ z, z = s.heap := ⟨_, rfl⟩
  obtain ⟨locs, hLe⟩ : ∃ z : List Loc, z = [] := ⟨_, rfl⟩
  rw [← hLe]
  have hS : va_S nOne s.heap H locs := by rw [hHe, hLe]; exact hS
  have hP : va_P D vwCl (wMo K hMo sMo) H := by rw [hHe]; exact hP
  have hgo : W p l e (headSpec wz_X11_twenties r_X11_twenties).room s m args below meth c H locs 0 0 Q (F0 m 0 ls []) := by
    refine lv_lconst (v := (1 : Int64)) hx hb dX11_twenties_0 (by decide) ?_
    refine lv_lstore_n (lv' := [(2, .long (1 : Int64)), (0, .ref (hMo 99)), (1, .int p1)]) hx hb dX11_twenties_1 rfl hl (by decide) rfl (fun ls hl => ?_)
    refine lv_iload_n hx hb dX11_twenties_2 rfl (lv_at hl 2 rfl) ?_
    refine lv_istore (lv' := [(4, .int p1), (2, .long (1 : Int64)), (0, .ref (hMo 99)), (1, .int p1)]) hx hb dX11_twenties_3 hl (by decide) rfl (fun ls hl => ?_)
    exact w5 F (1 : Int64) p1 H locs ls hf hP hS (lv_sub hl [2, 1, 0] rfl)
  rw [hHe] at hgo
  exact hgo

theorem gcV_X11_twenties {T0 : Cond} {own : String} {i : Nat} (h : Cond.methodLink own i yX11_twenties ∈ wsL_law) : GoodIn (T0 :: wsL_law) (wsV own i RX11 yX11_twenties wz_X11_twenties) := gV h (mB45 _ (List.mem_of_getElem? (i := 14) rfl)) (mB45 _ (List.mem_of_getElem? (i := 15) rfl)) (mB1 _ (List.mem_of_getElem? (i := 5) rfl)) (mB45 _ (List.mem_of_getElem? (i := 16) rfl))
theorem hdV_X11_twenties : yX11_twenties.cls = RX11 ∧ yX11_twenties.cls ≠ "java/lang/invoke/MethodHandle" ∧ yX11_twenties.cls ≠ "java/lang/invoke/VarHandle" ∧ (parseMethodDescriptor yX11_twenties.desc).map (fun d => d.parameters.length) = some 1 := by decide +kernel
def wz_X11_behind : List Cond := .code yX11_behind cX11_behind 4 (some .long) :: wsL_law
abbrev r_X11_behind : Room := { frames := 2, cells := 0, slots := 0, locals := 44 }
set_option maxHeartbeats 4000000 in
set_option maxRecDepth 100000 in
theorem c_X11_behind (l : Launch) (D : va_G) (K : Nat → ClassId) (F : Nat) (hMo : Nat → Nat) (sMo : MS) (p1 : Int32) (p2 : Int32) (p3 : Int32) (res : Int64) (hf : f_X11_behind F sMo p1 p2 p3 = some res) : Met l yX11_behind wz_X11_behind r_X11_behind (va_Pc [.ref (hMo 99), .int p1, .int p2, .int p3] (PR D K (wMo K hMo sMo))) (va_Ql (fun r (_ : Unit) => r = res) BN nOne) 0 0 nOne := by
  refine Met.ofW (cc := cX11_behind) (maxL := 4) (ret := (some .long)) (by decide) rfl ?_
  intro p e s m args below meth c s₁ B hml hv
  obtain ⟨hargs, hP, hK⟩ := hv
  have hx := B.exec
  have hb := B.bytes
  have hr := B.returns
  have hts := atoms_spec (ws := wz_X11_behind) B.pre
  have htl : ∀ w ∈ wsL_law, w.before args s = true := fun w h => hts w (List.mem_cons_of_mem _ h)
  have hown : s.vm.findClass RX11 = some m.cls := findClass_of_methodNamed B.named
  have hlocks := B.notSynchronized
  have hS : va_S nOne s.heap s.heap [] := va_S.rf
  have iX11 : ∀ w ∈ wsX110, w ∈ wz_X11_behind := fun w h => List.mem_cons_of_mem _ (inlX11 w h)
  suffices hgo : ∀ Q : State → Prop, Q = MQ below (va_Ql (fun r (_ : Unit) => r = res) BN nOne) args s 0 0 nOne → W p l e (headSpec wz_X11_behind r_X11_behind).room s m args below meth c s.heap [] 0 0 Q (entryFrame m args 4) from hgo _ rfl
  intro Q hQ
  have hen : entryFrame m args 4 = entryFrame m (([.ref (hMo 99), .int p1, .int p2, .int p3] : List Value).toArray) 4 := by rw [hargs]
  have hl := lv_entry ([.ref (hMo 99), .int p1, .int p2, .int p3]) (n := 4) (Nat.le_of_ble_eq_true rfl)
  rw [hen, lg_entry_eq]
  generalize (lg_sl ([.ref (hMo 99), .int p1, .int p2, .int p3]) ++ List.replicate (4 - (lg_sl ([.ref (hMo 99), .int p1, .int p2, .int p3])).length) Slot.unset).toArray = ls at hl ⊢
  have hl : lv_has ls 4 [(0, .ref (hMo 99)), (1, .int p1), (2, .int p2), (3, .int p3)] := hl
  unfold f_X11_behind at hf
  obtain ⟨H, hHe⟩ : ∃ z, z = s.heap := ⟨_, rfl⟩
  obtain ⟨locs, hLe⟩ : ∃ z : List Loc, z = [] := ⟨_, rfl⟩
  rw [← hLe]
  have hS : va_S nOne s.heap H locs := by rw [hHe, hLe]; exact hS
  have hP : va_P D vwCl (wMo K hMo sMo) H := by rw [hHe]; exact hP
  have hgo : W p l e (headSpec wz_X11_behind r_X11_behind).room s m args below meth c H locs 0 0 Q (F0 m 0 ls []) := by
    refine lv_iload_n hx hb dX11_behind_0 rfl (lv_at hl 2 rfl) ?_
    refine lv_aload_n hx hb dX11_behind_1 rfl (lv_at hl 0 rfl) ?_
    refine lv_iload_n hx hb dX11_behind_2 rfl (lv_at hl 1 rfl) ?_
    obtain ⟨o1, go1, hf⟩ := bd_s hf
    refine ro_Vi (As := [.int p1]) (rest := [.int p2]) ⟨hx, hb, hml, hown, hts⟩ (c_X11_leg l D K F hMo sMo p1 o1 go1) (cwV 1 hts (gcV_X11_leg (mB27 _ (List.mem_of_getElem? (i := 15) rfl))) rfl rfl rfl hdV_X11_leg ⟨Nat.le_of_ble_eq_true rfl, Nat.le_of_ble_eq_true rfl⟩) hK hP hS hP (va_recv hK hP (ci := 10) (q0 := 0) rfl o_Mo) rfl hl.1 rfl (Nat.le_of_ble_eq_true rfl) dX11_behind_3 ⟨Nat.zero_le _, Nat.zero_le _⟩ (fun H locs hP hS => ?_)
    refine lv_icmp_lt (tgt := 31) hx hb dX11_behind_6 (by decide) (fun c2 => ?_) (fun c2 => ?_)
    · have hf := it_t hf c2
      refine lv_iload_n hx hb dX11_behind_31 rfl (lv_at hl 3 rfl) ?_
      refine lv_if_eq (tgt := 39) hx hb dX11_behind_32 (by decide) (fun c3 => ?_) (fun c3 => ?_)
      · have hf := it_t hf c3
        refine lv_aload_n hx hb dX11_behind_39 rfl (lv_at hl 0 rfl) ?_
        refine va_get (D := D) (ci := 10) (v := .ref (hMo 15)) (C := RX11) (T := TX11) (N := 41) hx hb hts iX11 hown hK hP 0 o_Mo rfl 15 (by decide) (htl _ (mB6 _ (List.mem_of_getElem? (i := 3) rfl))) (fun _ h9 => h9) rfl dX11_behind_40 ?_
        refine lv_iconst (v := (4 : Int32)) hx hb dX11_behind_43 (by decide) ?_
        obtain ⟨g4, hf⟩ := gd_s hf
        refine va_iald hx hb hK hP 3 0 (f := sMo.2.2.1 15) a_Mo_15 rfl (vpb_in g4) dX11_behind_44 ?_
        refine lv_topi (fun v5 ev5 => ?_)
        have hf := lz_s hf v5 ev5
        refine lv_i2l (v := v5.toInt64) hx hb dX11_behind_45 rfl ?_
        refine lv_aload_n hx hb dX11_behind_46 rfl (lv_at hl 0 rfl) ?_
        refine lv_iload_n hx hb dX11_behind_47 rfl (lv_at hl 1 rfl) ?_
        refine lv_iconst (v := (1 : Int32)) hx hb dX11_behind_48 (by decide) ?_
        refine lv_iadd hx hb dX11_behind_49 ?_
        obtain ⟨o6, go6, hf⟩ := bd_s hf
        refine ro_Vl (As := [.int (p1 + (1 : Int32))]) (rest := [.long v5.toInt64]) ⟨hx, hb, hml, hown, hts⟩ (c_X11_twenties l D K F hMo sMo (p1 + (1 : Int32)) o6 go6) (cwV 1 hts (gcV_X11_twenties (mB45 _ (List.mem_of_getElem? (i := 13) rfl))) rfl rfl rfl hdV_X11_twenties ⟨Nat.le_of_ble_eq_true rfl, Nat.le_of_ble_eq_true rfl⟩) hK hP hS hP (va_recv hK hP (ci := 10) (q0 := 0) rfl o_Mo) rfl hl.1 rfl (Nat.le_of_ble_eq_true rfl) dX11_behind_50 ⟨Nat.zero_le _, Nat.zero_le _⟩ (fun H locs hP hS => ?_)
        refine lv_lmul hx hb dX11_behind_53 ?_
        have e9 := Option.some.inj hf
        rw [hQ]
        exact W.lret (v := (v5.toInt64 * o6)) hx hb hr (fun t ht hW => ⟨⟨(v5.toInt64 * o6), (), rfl, e9, trivial⟩, hS.F ht⟩) hS.2.2 dX11_behind_54
      · have hf := it_f hf c3
        refine lv_lconst (v := (0 : Int64)) hx hb dX11_behind_35 (by decide) ?_
        refine lv_goto (tgt := 54) hx hb dX11_behind_36 (by decide) ?_
        have e9 := Option.some.inj hf
        rw [hQ]
        exact W.lret (v := (0 : Int64)) hx hb hr (fun t ht hW => ⟨⟨(0 : Int64), (), rfl, e9, trivial⟩, hS.F ht⟩) hS.2.2 dX11_behind_54
    · have hf := it_f hf c2
      refine lv_aload_n hx hb dX11_behind_9 rfl (lv_at hl 0 rfl) ?_
      refine va_get (D := D) (ci := 10) (v := .ref (hMo 27)) (C := RX11) (T := TX11) (N := 41) hx hb hts iX11 hown hK hP 0 o_Mo rfl 27 (by decide) (htl _ (mB6 _ (List.mem_of_getElem? (i := 12) rfl))) (fun _ h9 => h9) rfl dX11_behind_10 ?_
      refine lv_bipush (v := (41 : Int32)) hx hb dX11_behind_13 (by decide) ?_
      refine lv_iload_n hx hb dX11_behind_15 rfl (lv_at hl 1 rfl) ?_
      refine lv_iconst (v := (1 : Int32)) hx hb dX11_behind_16 (by decide) ?_
      refine lv_iadd hx hb dX11_behind_17 ?_
      refine lv_imul hx hb dX11_behind_18 ?_
      refine lv_iload_n hx hb dX11_behind_19 rfl (lv_at hl 2 rfl) ?_
      refine lv_iadd hx hb dX11_behind_20 ?_
      refine lv_aload_n hx hb dX11_behind_21 rfl (lv_at hl 0 rfl) ?_
      refine lv_iload_n hx hb dX11_behind_22 rfl (lv_at hl 1 rfl) ?_
      obtain ⟨o7, go7, hf⟩ := bd_s hf
      refine ro_Vi (As := [.int p1]) (rest := [.int (((41 : Int32) * (p1 + (1 : Int32))) + p2), .ref (hMo 27)]) ⟨hx, hb, hml, hown, hts⟩ (c_X11_leg l D K F hMo sMo p1 o7 go7) (cwV 1 hts (gcV_X11_leg (mB27 _ (List.mem_of_getElem? (i := 15) rfl))) rfl rfl rfl hdV_X11_leg ⟨Nat.le_of_ble_eq_true rfl, Nat.le_of_ble_eq_true rfl⟩) hK hP hS hP (va_recv hK hP (ci := 10) (q0 := 0) rfl o_Mo) rfl hl.1 rfl (Nat.le_of_ble_eq_true rfl) dX11_behind_23 ⟨Nat.zero_le _, Nat.zero_le _⟩ (fun H locs hP hS => ?_)
      refine lv_isub hx hb dX11_behind_26 ?_
      refine lv_topi (fun v8 ev8 => ?_)
      have hf := lz_s hf v8 ev8
      obtain ⟨g9, hf⟩ := gd_s hf
      refine va_lald hx hb hK hP 12 1 (f := sMo.2.2.2 27) a_Mo_27 rfl (vpb_in g9) dX11_behind_27 ?_
      refine lv_topl (fun v10 ev10 => ?_)
      have hf := lz_s hf v10 ev10
      refine lv_goto (tgt := 54) hx hb dX11_behind_28 (by decide) ?_
      have e9 := Option.some.inj hf
      rw [hQ]
      exact W.lret (v := v10) hx hb hr (fun t ht hW => ⟨⟨v10, (), rfl, e9, trivial⟩, hS.F ht⟩) hS.2.2 dX11_behind_54
  rw [hHe] at hgo
  exact hgo

theorem gcV_X11_behind {T0 : Cond} {own : String} {i : Nat} (h : Cond.methodLink own i yX11_behind ∈ wsL_law) : GoodIn (T0 :: wsL_law) (wsV own i RX11 yX11_behind wz_X11_behind) := gV h (mB45 _ (List.mem_of_getElem? (i := 10) rfl)) (mB45 _ (List.mem_of_getElem? (i := 11) rfl)) (mB1 _ (List.mem_of_getElem? (i := 5) rfl)) (mB45 _ (List.mem_of_getElem? (i := 12) rfl))
theorem hdV_X11_behind : yX11_behind.cls = RX11 ∧ yX11_behind.cls ≠ "java/lang/invoke/MethodHandle" ∧ yX11_behind.cls ≠ "java/lang/invoke/VarHandle" ∧ (parseMethodDescriptor yX11_behind.desc).map (fun d => d.parameters.length) = some 3 := by decide +kernel
def wz_X11_comes1 : List Cond := .code yX11_comes1 cX11_comes1 7 (some .long) :: wsL_law
abbrev r_X11_comes1 : Room := { frames := 3, cells := 0, slots := 0, locals := 67 }
set_option maxHeartbeats 4000000 in
set_option maxRecDepth 100000 in
theorem c_X11_comes1 (l : Launch) (D : va_G) (K : Nat → ClassId) (F : Nat) (hMo : Nat → Nat) (sMo : MS) (p1 : Int32) (p2 : Int32) (p3 : Int32) (p4 : Int32) (p5 : Int32) (res : Int64) (hf : f_X11_comes1 F sMo p1 p2 p3 p4 p5 = some res) : Met l yX11_comes1 wz_X11_comes1 r_X11_comes1 (va_Pc [.ref (hMo 99), .int p1, .int p2, .int p3, .int p4, .int p5] (PR D K (wMo K hMo sMo))) (va_Ql (fun r (_ : Unit) => r = res) BN nOne) 0 0 nOne := by
  refine Met.ofW (cc := cX11_comes1) (maxL := 7) (ret := (some .long)) (by decide) rfl ?_
  intro p e s m args below meth c s₁ B hml hv
  obtain ⟨hargs, hP, hK⟩ := hv
  have hx := B.exec
  have hb := B.bytes
  have hr := B.returns
  have hts := atoms_spec (ws := wz_X11_comes1) B.pre
  have htl : ∀ w ∈ wsL_law, w.before args s = true := fun w h => hts w (List.mem_cons_of_mem _ h)
  have hown : s.vm.findClass RX11 = some m.cls := findClass_of_methodNamed B.named
  have hlocks := B.notSynchronized
  have hS : va_S nOne s.heap s.heap [] := va_S.rf
  have iX11 : ∀ w ∈ wsX110, w ∈ wz_X11_comes1 := fun w h => List.mem_cons_of_mem _ (inlX11 w h)
  suffices hgo : ∀ Q : State → Prop, Q = MQ below (va_Ql (fun r (_ : Unit) => r = res) BN nOne) args s 0 0 nOne → W p l e (headSpec wz_X11_comes1 r_X11_comes1).room s m args below meth c s.heap [] 0 0 Q (entryFrame m args 7) from hgo _ rfl
  intro Q hQ
  have w33 : ∀ (y0 : Int64), ∀ (H : Heap) (locs : List Loc) (ls : Array Slot), f_X11_comes1_33 F sMo p1 p2 p3 p4 p5 y0 = some res → va_P D vwCl (wMo K hMo sMo) H → va_S nOne s.heap H locs → lv_has ls 7 [] → W p l e (headSpec wz_X11_comes1 r_X11_comes1).room s m args below meth c H locs 0 0 Q (F0 m 33 ls [.long y0]) := by
    intro y0 H locs ls hf hP hS hl
    unfold f_X11_comes1_33 at hf
    refine lv_lconst (v := (0 : Int64)) hx hb dX11_comes1_33 (by decide) ?_
    refine lv_goto (tgt := 58) hx hb dX11_comes1_34 (by decide) ?_
    refine lv_ladd hx hb dX11_comes1_58 ?_
    have e9 := Option.some.inj hf
    rw [hQ]
    exact W.lret (v := (y0 + (0 : Int64))) hx hb hr (fun t ht hW => ⟨⟨(y0 + (0 : Int64)), (), rfl, e9, trivial⟩, hS.F ht⟩) hS.2.2 dX11_comes1_59
  have w10 : ∀ (y0 : Int32), ∀ (H : Heap) (locs : List Loc) (ls : Array Slot), f_X11_comes1_10 F sMo p1 p2 p3 p4 p5 y0 = some res → va_P D vwCl (wMo K hMo sMo) H → va_S nOne s.heap H locs → lv_has ls 7 [(0, .ref (hMo 99)), (2, .int p2), (3, .int p3), (4, .int p4), (5, .int p5)] → W p l e (headSpec wz_X11_comes1 r_X11_comes1).room s m args below meth c H locs 0 0 Q (F0 m 10 ls [.int y0]) := by
    intro y0 H locs ls hf hP hS hl
    unfold f_X11_comes1_10 at hf
    refine lv_istore (lv' := [(6, .int y0), (0, .ref (hMo 99)), (2, .int p2), (3, .int p3), (4, .int p4), (5, .int p5)]) hx hb dX11_comes1_10 hl (by decide) rfl (fun ls hl => ?_)
    refine lv_aload_n hx hb dX11_comes1_12 rfl (lv_at hl 1 rfl) ?_
    refine lv_iload_n hx hb dX11_comes1_13 rfl (lv_at hl 2 rfl) ?_
    refine lv_iload_n hx hb dX11_comes1_14 rfl (lv_at hl 3 rfl) ?_
    refine lv_iload hx hb dX11_comes1_15 (lv_at hl 4 rfl) ?_
    refine lv_iadd hx hb dX11_comes1_17 ?_
    refine lv_iload hx hb dX11_comes1_18 (lv_at hl 0 rfl) ?_
    obtain ⟨o2, go2, hf⟩ := bd_s hf
    refine ro_Vl (As := [.int p2, .int (p3 + p4), .int y0]) (rest := []) ⟨hx, hb, hml, hown, hts⟩ (c_X11_behind l D K F hMo sMo p2 (p3 + p4) y0 o2 go2) (cwV 3 hts (gcV_X11_behind (mB45 _ (List.mem_of_getElem? (i := 9) rfl))) rfl rfl rfl hdV_X11_behind ⟨Nat.le_of_ble_eq_true rfl, Nat.le_of_ble_eq_true rfl⟩) hK hP hS hP (va_recv hK hP (ci := 10) (q0 := 0) rfl o_Mo) rfl hl.1 rfl (Nat.le_of_ble_eq_true rfl) dX11_comes1_20 ⟨Nat.zero_le _, Nat.zero_le _⟩ (fun H locs hP hS => ?_)
    refine lv_iload hx hb dX11_comes1_23 (lv_at hl 0 rfl) ?_
    refine lv_if_ne (tgt := 33) hx hb dX11_comes1_25 (by decide) (fun c3 => ?_) (fun c3 => ?_)
    · have hf := it_f hf c3
      exact w33 o2 H locs ls hf hP hS (lv_sub hl [] rfl)
    · have hf := it_t hf c3
      refine lv_iload hx hb dX11_comes1_28 (lv_at hl 4 rfl) ?_
      refine lv_if_ne (tgt := 37) hx hb dX11_comes1_30 (by decide) (fun c4 => ?_) (fun c4 => ?_)
      · have hf := it_f hf c4
        refine lv_iload hx hb dX11_comes1_37 (lv_at hl 4 rfl) ?_
        refine lv_iload hx hb dX11_comes1_39 (lv_at hl 5 rfl) ?_
        refine lv_imul hx hb dX11_comes1_41 ?_
        refine lv_aload_n hx hb dX11_comes1_42 rfl (lv_at hl 1 rfl) ?_
        refine va_get (D := D) (ci := 10) (v := .ref (hMo 15)) (C := RX11) (T := TX11) (N := 41) hx hb hts iX11 hown hK hP 0 o_Mo rfl 15 (by decide) (htl _ (mB6 _ (List.mem_of_getElem? (i := 3) rfl))) (fun _ h9 => h9) rfl dX11_comes1_43 ?_
        refine lv_iconst (v := (2 : Int32)) hx hb dX11_comes1_46 (by decide) ?_
        obtain ⟨g5, hf⟩ := gd_s hf
        refine va_iald hx hb hK hP 3 0 (f := sMo.2.2.1 15) a_Mo_15 rfl (vpb_in g5) dX11_comes1_47 ?_
        refine lv_topi (fun v6 ev6 => ?_)
        have hf := lz_s hf v6 ev6
        refine lv_iadd hx hb dX11_comes1_48 ?_
        refine lv_i2l (v := ((p4 * p5) + v6).toInt64) hx hb dX11_comes1_49 rfl ?_
        refine lv_aload_n hx hb dX11_comes1_50 rfl (lv_at hl 1 rfl) ?_
        refine lv_iload_n hx hb dX11_comes1_51 rfl (lv_at hl 2 rfl) ?_
        refine lv_iconst (v := (1 : Int32)) hx hb dX11_comes1_52 (by decide) ?_
        refine lv_iadd hx hb dX11_comes1_53 ?_
        obtain ⟨o7, go7, hf⟩ := bd_s hf
        refine ro_Vl (As := [.int (p2 + (1 : Int32))]) (rest := [.long (((p4 * p5) + v6).toInt64), .long o2]) ⟨hx, hb, hml, hown, hts⟩ (c_X11_twenties l D K F hMo sMo (p2 + (1 : Int32)) o7 go7) (cwV 1 hts (gcV_X11_twenties (mB45 _ (List.mem_of_getElem? (i := 13) rfl))) rfl rfl rfl hdV_X11_twenties ⟨Nat.le_of_ble_eq_true rfl, Nat.le_of_ble_eq_true rfl⟩) hK hP hS hP (va_recv hK hP (ci := 10) (q0 := 0) rfl o_Mo) rfl hl.1 rfl (Nat.le_of_ble_eq_true rfl) dX11_comes1_54 ⟨Nat.zero_le _, Nat.zero_le _⟩ (fun H locs hP hS => ?_)
        refine lv_lmul hx hb dX11_comes1_57 ?_
        refine lv_ladd hx hb dX11_comes1_58 ?_
        have e9 := Option.some.inj hf
        rw [hQ]
        exact W.lret (v := (o2 + (((p4 * p5) + v6).toInt64 * o7))) hx hb hr (fun t ht hW => ⟨⟨(o2 + (((p4 * p5) + v6).toInt64 * o7)), (), rfl, e9, trivial⟩, hS.F ht⟩) hS.2.2 dX11_comes1_59
      · have hf := it_t hf c4
        exact w33 o2 H locs ls hf hP hS (lv_sub hl [] rfl)
  have hen : entryFrame m args 7 = entryFrame m (([.ref (hMo 99), .int p1, .int p2, .int p3, .int p4, .int p5] : List Value).toArray) 7 := by rw [hargs]
  have hl := lv_entry ([.ref (hMo 99), .int p1, .int p2, .int p3, .int p4, .int p5]) (n := 7) (Nat.le_of_ble_eq_true rfl)
  rw [hen, lg_entry_eq]
  generalize (lg_sl ([.ref (hMo 99), .int p1, .int p2, .int p3, .int p4, .int p5]) ++ List.replicate (7 - (lg_sl ([.ref (hMo 99), .int p1, .int p2, .int p3, .int p4, .int p5])).length) Slot.unset).toArray = ls at hl ⊢
  have hl : lv_has ls 7 [(0, .ref (hMo 99)), (1, .int p1), (2, .int p2), (3, .int p3), (4, .int p4), (5, .int p5)] := hl
  unfold f_X11_comes1 at hf
  obtain ⟨H, hHe⟩ : ∃ z, z = s.heap := ⟨_, rfl⟩
  obtain ⟨locs, hLe⟩ : ∃ z : List Loc, z = [] := ⟨_, rfl⟩
  rw [← hLe]
  have hS : va_S nOne s.heap H locs := by rw [hHe, hLe]; exact hS
  have hP : va_P D vwCl (wMo K hMo sMo) H := by rw [hHe]; exact hP
  have hgo : W p l e (headSpec wz_X11_comes1 r_X11_comes1).room s m args below meth c H locs 0 0 Q (F0 m 0 ls []) := by
    refine lv_iload_n hx hb dX11_comes1_0 rfl (lv_at hl 1 rfl) ?_
    refine lv_iconst (v := (5 : Int32)) hx hb dX11_comes1_1 (by decide) ?_
    refine lv_icmp_lt (tgt := 9) hx hb dX11_comes1_2 (by decide) (fun c1 => ?_) (fun c1 => ?_)
    · have hf := it_t hf c1
      refine lv_iconst (v := (0 : Int32)) hx hb dX11_comes1_9 (by decide) ?_
      exact w10 (0 : Int32) H locs ls hf hP hS (lv_sub hl [0, 2, 3, 4, 5] rfl)
    · have hf := it_f hf c1
      refine lv_iconst (v := (1 : Int32)) hx hb dX11_comes1_5 (by decide) ?_
      refine lv_goto (tgt := 10) hx hb dX11_comes1_6 (by decide) ?_
      exact w10 (1 : Int32) H locs ls hf hP hS (lv_sub hl [0, 2, 3, 4, 5] rfl)
  rw [hHe] at hgo
  exact hgo

theorem gcV_X11_comes1 {T0 : Cond} {own : String} {i : Nat} (h : Cond.methodLink own i yX11_comes1 ∈ wsL_law) : GoodIn (T0 :: wsL_law) (wsV own i RX11 yX11_comes1 wz_X11_comes1) := gV h (mB45 _ (List.mem_of_getElem? (i := 6) rfl)) (mB45 _ (List.mem_of_getElem? (i := 7) rfl)) (mB1 _ (List.mem_of_getElem? (i := 5) rfl)) (mB45 _ (List.mem_of_getElem? (i := 8) rfl))
theorem hdV_X11_comes1 : yX11_comes1.cls = RX11 ∧ yX11_comes1.cls ≠ "java/lang/invoke/MethodHandle" ∧ yX11_comes1.cls ≠ "java/lang/invoke/VarHandle" ∧ (parseMethodDescriptor yX11_comes1.desc).map (fun d => d.parameters.length) = some 5 := by decide +kernel
def wz_X11_bestBuy : List Cond := .code yX11_bestBuy cX11_bestBuy 11 (some .int) :: wsL_law
abbrev r_X11_bestBuy : Room := { frames := 4, cells := 0, slots := 0, locals := 93 }
set_option maxHeartbeats 4000000 in
set_option maxRecDepth 100000 in
theorem c_X11_bestBuy (l : Launch) (D : va_G) (K : Nat → ClassId) (F : Nat) (hMo : Nat → Nat) (sMo : MS) (p1 : Int32) (p2 : Int32) (p3 : Int32) (p4 : Int32) (res : Int32) (hf : f_X11_bestBuy F sMo p1 p2 p3 p4 = some res) : Met l yX11_bestBuy wz_X11_bestBuy r_X11_bestBuy (va_Pc [.ref (hMo 99), .int p1, .int p2, .int p3, .int p4] (PR D K (wMo K hMo sMo))) (va_Qi (fun r (_ : Unit) => r = res) BN nOne) 0 0 nOne := by
  refine Met.ofW (cc := cX11_bestBuy) (maxL := 11) (ret := (some .int)) (by decide) rfl ?_
  intro p e s m args below meth c s₁ B hml hv
  obtain ⟨hargs, hP, hK⟩ := hv
  have hx := B.exec
  have hb := B.bytes
  have hr := B.returns
  have hts := atoms_spec (ws := wz_X11_bestBuy) B.pre
  have htl : ∀ w ∈ wsL_law, w.before args s = true := fun w h => hts w (List.mem_cons_of_mem _ h)
  have hown : s.vm.findClass RX11 = some m.cls := findClass_of_methodNamed B.named
  have hlocks := B.notSynchronized
  have hS : va_S nOne s.heap s.heap [] := va_S.rf
  have iX11 : ∀ w ∈ wsX110, w ∈ wz_X11_bestBuy := fun w h => List.mem_cons_of_mem _ (inlX11 w h)
  suffices hgo : ∀ Q : State → Prop, Q = MQ below (va_Qi (fun r (_ : Unit) => r = res) BN nOne) args s 0 0 nOne → W p l e (headSpec wz_X11_bestBuy r_X11_bestBuy).room s m args below meth c s.heap [] 0 0 Q (entryFrame m args 11) from hgo _ rfl
  intro Q hQ
  have w73 : ∀ (k6 : Int32 → Int32 → Option Int32), (∀ (x5 : Int32), ∀ (x6 : Int32), ∀ (H : Heap) (locs : List Loc) (ls : Array Slot), k6 x5 x6 = some res → va_P D vwCl (wMo K hMo sMo) H → va_S nOne s.heap H locs → lv_has ls 11 [(0, .ref (hMo 99)), (1, .int p1), (2, .int p2), (3, .int p3), (4, .int p4), (5, .int x5), (6, .int x6)] → W p l e (headSpec wz_X11_bestBuy r_X11_bestBuy).room s m args below meth c H locs 0 0 Q (F0 m 6 ls [])) → ∀ (x5 : Int32), ∀ (x6 : Int32), ∀ (H : Heap) (locs : List Loc) (ls : Array Slot), f_X11_bestBuy_73 F sMo p1 p2 p3 p4 k6 x5 x6 = some res → va_P D vwCl (wMo K hMo sMo) H → va_S nOne s.heap H locs → lv_has ls 11 [(0, .ref (hMo 99)), (1, .int p1), (2, .int p2), (3, .int p3), (4, .int p4), (5, .int x5), (6, .int x6)] → W p l e (headSpec wz_X11_bestBuy r_X11_bestBuy).room s m args below meth c H locs 0 0 Q (F0 m 73 ls []) := by
    intro k6 hk6 x5 x6 H locs ls hf hP hS hl
    unfold f_X11_bestBuy_73 at hf
    obtain ⟨v9, ev9⟩ : ∃ z : Int32, z = x6 + (1 : Int32) := ⟨_, rfl⟩
    have hf := lz_s hf v9 ev9
    refine lv_iinc (v := v9) (lv' := [(6, .int v9), (0, .ref (hMo 99)), (1, .int p1), (2, .int p2), (3, .int p3), (4, .int p4), (5, .int x5)]) hx hb dX11_bestBuy_73 hl (k := 6) rfl (by rw [ev9]; rfl) (by decide) rfl (fun ls hl => ?_)
    refine lv_goto (tgt := 6) hx hb dX11_bestBuy_76 (by decide) ?_
    exact hk6 x5 v9 H locs ls hf hP hS (lv_sub hl [1, 2, 3, 4, 5, 6, 0] rfl)
  have w69 : ∀ (k6 : Int32 → Int32 → Option Int32), (∀ (x5 : Int32), ∀ (x6 : Int32), ∀ (H : Heap) (locs : List Loc) (ls : Array Slot), k6 x5 x6 = some res → va_P D vwCl (wMo K hMo sMo) H → va_S nOne s.heap H locs → lv_has ls 11 [(0, .ref (hMo 99)), (1, .int p1), (2, .int p2), (3, .int p3), (4, .int p4), (5, .int x5), (6, .int x6)] → W p l e (headSpec wz_X11_bestBuy r_X11_bestBuy).room s m args below meth c H locs 0 0 Q (F0 m 6 ls [])) → ∀ (x6 : Int32), ∀ (H : Heap) (locs : List Loc) (ls : Array Slot), f_X11_bestBuy_69 F sMo p1 p2 p3 p4 k6 x6 = some res → va_P D vwCl (wMo K hMo sMo) H → va_S nOne s.heap H locs → lv_has ls 11 [(0, .ref (hMo 99)), (1, .int p1), (2, .int p2), (3, .int p3), (4, .int p4), (6, .int x6)] → W p l e (headSpec wz_X11_bestBuy r_X11_bestBuy).room s m args below meth c H locs 0 0 Q (F0 m 69 ls []) := by
    intro k6 hk6 x6 H locs ls hf hP hS hl
    unfold f_X11_bestBuy_69 at hf
    refine lv_iload hx hb dX11_bestBuy_69 (lv_at hl 5 rfl) ?_
    refine lv_istore (lv' := [(5, .int x6), (0, .ref (hMo 99)), (1, .int p1), (2, .int p2), (3, .int p3), (4, .int p4), (6, .int x6)]) hx hb dX11_bestBuy_71 hl (by decide) rfl (fun ls hl => ?_)
    exact w73 k6 hk6 x6 x6 H locs ls hf hP hS (lv_sub hl [1, 2, 3, 4, 5, 0, 6] rfl)
  have w6 : ∀ (n : Nat), ∀ (x5 : Int32), ∀ (x6 : Int32), ∀ (H : Heap) (locs : List Loc) (ls : Array Slot), f_X11_bestBuy_6 F sMo p1 p2 p3 p4 n x5 x6 = some res → va_P D vwCl (wMo K hMo sMo) H → va_S nOne s.heap H locs → lv_has ls 11 [(0, .ref (hMo 99)), (1, .int p1), (2, .int p2), (3, .int p3), (4, .int p4), (5, .int x5), (6, .int x6)] → W p l e (headSpec wz_X11_bestBuy r_X11_bestBuy).room s m args below meth c H locs 0 0 Q (F0 m 6 ls []) := by
    intro n
    induction n with
    | zero =>
      intro x5 x6 H locs ls hf
      exact absurd (show none = some res from hf) (fun h => nomatch h)
    | succ n ih =>
      intro x5 x6 H locs ls hf hP hS hl
      rw [f_X11_bestBuy_6] at hf
      refine lv_iload_n hx hb dX11_bestBuy_6 rfl (lv_at hl 3 rfl) ?_
      refine lv_iload hx hb dX11_bestBuy_7 (lv_at hl 6 rfl) ?_
      refine lv_iadd hx hb dX11_bestBuy_9 ?_
      refine lv_aload_n hx hb dX11_bestBuy_10 rfl (lv_at hl 0 rfl) ?_
      refine va_get (D := D) (ci := 10) (v := .ref (hMo 15)) (C := RX11) (T := TX11) (N := 41) hx hb hts iX11 hown hK hP 0 o_Mo rfl 15 (by decide) (htl _ (mB6 _ (List.mem_of_getElem? (i := 3) rfl))) (fun _ h9 => h9) rfl dX11_bestBuy_11 ?_
      refine lv_iconst (v := (0 : Int32)) hx hb dX11_bestBuy_14 (by decide) ?_
      obtain ⟨g1, hf⟩ := gd_s hf
      refine va_iald hx hb hK hP 3 0 (f := sMo.2.2.1 15) a_Mo_15 rfl (vpb_in g1) dX11_bestBuy_15 ?_
      refine lv_topi (fun v2 ev2 => ?_)
      have hf := lz_s hf v2 ev2
      refine lv_icmp_gt (tgt := 79) hx hb dX11_bestBuy_16 (by decide) (fun c3 => ?_) (fun c3 => ?_)
      · have hf := it_t hf c3
        refine lv_iload hx hb dX11_bestBuy_79 (lv_at hl 5 rfl) ?_
        have e9 := Option.some.inj hf
        rw [hQ]
        exact W.iret (v := x5) hx hb hr (fun t ht hW => ⟨⟨x5, (), rfl, e9, trivial⟩, hS.F ht⟩) hS.2.2 dX11_bestBuy_81
      · have hf := it_f hf c3
        refine lv_aload_n hx hb dX11_bestBuy_19 rfl (lv_at hl 0 rfl) ?_
        refine lv_iload_n hx hb dX11_bestBuy_20 rfl (lv_at hl 1 rfl) ?_
        refine lv_iload_n hx hb dX11_bestBuy_21 rfl (lv_at hl 2 rfl) ?_
        refine lv_iload_n hx hb dX11_bestBuy_22 rfl (lv_at hl 3 rfl) ?_
        refine lv_iload hx hb dX11_bestBuy_23 (lv_at hl 6 rfl) ?_
        refine lv_iload hx hb dX11_bestBuy_25 (lv_at hl 4 rfl) ?_
        obtain ⟨o4, go4, hf⟩ := bd_s hf
        refine ro_Vl (As := [.int p1, .int p2, .int p3, .int x6, .int p4]) (rest := []) ⟨hx, hb, hml, hown, hts⟩ (c_X11_comes1 l D K F hMo sMo p1 p2 p3 x6 p4 o4 go4) (cwV 5 hts (gcV_X11_comes1 (mB45 _ (List.mem_of_getElem? (i := 5) rfl))) rfl rfl rfl hdV_X11_comes1 ⟨Nat.le_of_ble_eq_true rfl, Nat.le_of_ble_eq_true rfl⟩) hK hP hS hP (va_recv hK hP (ci := 10) (q0 := 0) rfl o_Mo) rfl hl.1 rfl (Nat.le_of_ble_eq_true rfl) dX11_bestBuy_27 ⟨Nat.zero_le _, Nat.zero_le _⟩ (fun H locs hP hS => ?_)
        refine lv_lstore (lv' := [(7, .long o4), (0, .ref (hMo 99)), (1, .int p1), (2, .int p2), (3, .int p3), (4, .int p4), (5, .int x5), (6, .int x6)]) hx hb dX11_bestBuy_30 hl (by decide) rfl (fun ls hl => ?_)
        refine lv_aload_n hx hb dX11_bestBuy_32 rfl (lv_at hl 1 rfl) ?_
        refine lv_iload_n hx hb dX11_bestBuy_33 rfl (lv_at hl 2 rfl) ?_
        refine lv_iload_n hx hb dX11_bestBuy_34 rfl (lv_at hl 3 rfl) ?_
        refine lv_iload_n hx hb dX11_bestBuy_35 rfl (lv_at hl 4 rfl) ?_
        refine lv_iload hx hb dX11_bestBuy_36 (lv_at hl 6 rfl) ?_
        refine lv_iload hx hb dX11_bestBuy_38 (lv_at hl 5 rfl) ?_
        obtain ⟨o5, go5, hf⟩ := bd_s hf
        refine ro_Vl (As := [.int p1, .int p2, .int p3, .int x5, .int p4]) (rest := []) ⟨hx, hb, hml, hown, hts⟩ (c_X11_comes1 l D K F hMo sMo p1 p2 p3 x5 p4 o5 go5) (cwV 5 hts (gcV_X11_comes1 (mB45 _ (List.mem_of_getElem? (i := 5) rfl))) rfl rfl rfl hdV_X11_comes1 ⟨Nat.le_of_ble_eq_true rfl, Nat.le_of_ble_eq_true rfl⟩) hK hP hS hP (va_recv hK hP (ci := 10) (q0 := 0) rfl o_Mo) rfl hl.1 rfl (Nat.le_of_ble_eq_true rfl) dX11_bestBuy_40 ⟨Nat.zero_le _, Nat.zero_le _⟩ (fun H locs hP hS => ?_)
        refine lv_lstore (lv' := [(9, .long o5), (7, .long o4), (0, .ref (hMo 99)), (1, .int p1), (2, .int p2), (3, .int p3), (4, .int p4), (5, .int x5), (6, .int x6)]) hx hb dX11_bestBuy_43 hl (by decide) rfl (fun ls hl => ?_)
        refine lv_iload_n hx hb dX11_bestBuy_45 rfl (lv_at hl 3 rfl) ?_
        refine lv_iconst (v := (5 : Int32)) hx hb dX11_bestBuy_46 (by decide) ?_
        refine lv_icmp_ne (tgt := 61) hx hb dX11_bestBuy_47 (by decide) (fun c6 => ?_) (fun c6 => ?_)
        · have hf := it_f hf c6
          refine lv_lload hx hb dX11_bestBuy_61 (lv_at hl 1 rfl) ?_
          refine lv_lload hx hb dX11_bestBuy_63 (lv_at hl 0 rfl) ?_
          refine W.lcmp hx hb dX11_bestBuy_65 ?_
          refine lv_if_ge (tgt := 73) hx hb dX11_bestBuy_66 (by decide) (fun c7 => ?_) (fun c7 => ?_)
          · have hf := it_t hf c7
            exact w73 (f_X11_bestBuy_6 F sMo p1 p2 p3 p4 n) ih x5 x6 H locs ls hf hP hS (lv_sub hl [2, 3, 4, 5, 6, 7, 8] rfl)
          · have hf := it_f hf c7
            exact w69 (f_X11_bestBuy_6 F sMo p1 p2 p3 p4 n) ih x6 H locs ls hf hP hS (lv_sub hl [2, 3, 4, 5, 6, 8] rfl)
        · have hf := it_t hf c6
          refine lv_lload hx hb dX11_bestBuy_50 (lv_at hl 1 rfl) ?_
          refine lv_lload hx hb dX11_bestBuy_52 (lv_at hl 0 rfl) ?_
          refine W.lcmp hx hb dX11_bestBuy_54 ?_
          refine lv_if_le (tgt := 73) hx hb dX11_bestBuy_55 (by decide) (fun c8 => ?_) (fun c8 => ?_)
          · have hf := it_t hf c8
            exact w73 (f_X11_bestBuy_6 F sMo p1 p2 p3 p4 n) ih x5 x6 H locs ls hf hP hS (lv_sub hl [2, 3, 4, 5, 6, 7, 8] rfl)
          · have hf := it_f hf c8
            refine lv_goto (tgt := 69) hx hb dX11_bestBuy_58 (by decide) ?_
            exact w69 (f_X11_bestBuy_6 F sMo p1 p2 p3 p4 n) ih x6 H locs ls hf hP hS (lv_sub hl [2, 3, 4, 5, 6, 8] rfl)
  have hen : entryFrame m args 11 = entryFrame m (([.ref (hMo 99), .int p1, .int p2, .int p3, .int p4] : List Value).toArray) 11 := by rw [hargs]
  have hl := lv_entry ([.ref (hMo 99), .int p1, .int p2, .int p3, .int p4]) (n := 11) (Nat.le_of_ble_eq_true rfl)
  rw [hen, lg_entry_eq]
  generalize (lg_sl ([.ref (hMo 99), .int p1, .int p2, .int p3, .int p4]) ++ List.replicate (11 - (lg_sl ([.ref (hMo 99), .int p1, .int p2, .int p3, .int p4])).length) Slot.unset).toArray = ls at hl ⊢
  have hl : lv_has ls 11 [(0, .ref (hMo 99)), (1, .int p1), (2, .int p2), (3, .int p3), (4, .int p4)] := hl
  unfold f_X11_bestBuy at hf
  obtain ⟨H, hHe⟩ : ∃ z, z = s.heap := ⟨_, rfl⟩
  obtain ⟨locs, hLe⟩ : ∃ z : List Loc, z = [] := ⟨_, rfl⟩
  rw [← hLe]
  have hS : va_S nOne s.heap H locs := by rw [hHe, hLe]; exact hS
  have hP : va_P D vwCl (wMo K hMo sMo) H := by rw [hHe]; exact hP
  have hgo : W p l e (headSpec wz_X11_bestBuy r_X11_bestBuy).room s m args below meth c H locs 0 0 Q (F0 m 0 ls []) := by
    refine lv_iconst (v := (0 : Int32)) hx hb dX11_bestBuy_0 (by decide) ?_
    refine lv_istore (lv' := [(5, .int (0 : Int32)), (0, .ref (hMo 99)), (1, .int p1), (2, .int p2), (3, .int p3), (4, .int p4)]) hx hb dX11_bestBuy_1 hl (by decide) rfl (fun ls hl => ?_)
    refine lv_iconst (v := (1 : Int32)) hx hb dX11_bestBuy_3 (by decide) ?_
    refine lv_istore (lv' := [(6, .int (1 : Int32)), (5, .int (0 : Int32)), (0, .ref (hMo 99)), (1, .int p1), (2, .int p2), (3, .int p3), (4, .int p4)]) hx hb dX11_bestBuy_4 hl (by decide) rfl (fun ls hl => ?_)
    exact w6 F (0 : Int32) (1 : Int32) H locs ls hf hP hS (lv_sub hl [2, 3, 4, 5, 6, 1, 0] rfl)
  rw [hHe] at hgo
  exact hgo

theorem gcV_X11_bestBuy {T0 : Cond} {own : String} {i : Nat} (h : Cond.methodLink own i yX11_bestBuy ∈ wsL_law) : GoodIn (T0 :: wsL_law) (wsV own i RX11 yX11_bestBuy wz_X11_bestBuy) := gV h (mB45 _ (List.mem_of_getElem? (i := 22) rfl)) (mB45 _ (List.mem_of_getElem? (i := 23) rfl)) (mB1 _ (List.mem_of_getElem? (i := 5) rfl)) (mB46 _ (List.mem_of_getElem? (i := 0) rfl))
theorem hdV_X11_bestBuy : yX11_bestBuy.cls = RX11 ∧ yX11_bestBuy.cls ≠ "java/lang/invoke/MethodHandle" ∧ yX11_bestBuy.cls ≠ "java/lang/invoke/VarHandle" ∧ (parseMethodDescriptor yX11_bestBuy.desc).map (fun d => d.parameters.length) = some 4 := by decide +kernel
def wz_X11_atPrice : List Cond := .code yX11_atPrice cX11_atPrice 6 (some .long) :: wsL_law
abbrev r_X11_atPrice : Room := { frames := 5, cells := 0, slots := 0, locals := 123 }
set_option maxHeartbeats 4000000 in
set_option maxRecDepth 100000 in
theorem c_X11_atPrice (l : Launch) (D : va_G) (K : Nat → ClassId) (F : Nat) (hMo : Nat → Nat) (sMo : MS) (p1 : Int32) (p2 : Int32) (p3 : Int32) (p4 : Int32) (res : Int64) (hf : f_X11_atPrice F sMo p1 p2 p3 p4 = some res) : Met l yX11_atPrice wz_X11_atPrice r_X11_atPrice (va_Pc [.ref (hMo 99), .int p1, .int p2, .int p3, .int p4] (PR D K (wMo K hMo sMo))) (va_Ql (fun r (_ : Unit) => r = res) BN nOne) 0 0 nOne := by
  refine Met.ofW (cc := cX11_atPrice) (maxL := 6) (ret := (some .long)) (by decide) rfl ?_
  intro p e s m args below meth c s₁ B hml hv
  obtain ⟨hargs, hP, hK⟩ := hv
  have hx := B.exec
  have hb := B.bytes
  have hr := B.returns
  have hts := atoms_spec (ws := wz_X11_atPrice) B.pre
  have htl : ∀ w ∈ wsL_law, w.before args s = true := fun w h => hts w (List.mem_cons_of_mem _ h)
  have hown : s.vm.findClass RX11 = some m.cls := findClass_of_methodNamed B.named
  have hlocks := B.notSynchronized
  have hS : va_S nOne s.heap s.heap [] := va_S.rf
  suffices hgo : ∀ Q : State → Prop, Q = MQ below (va_Ql (fun r (_ : Unit) => r = res) BN nOne) args s 0 0 nOne → W p l e (headSpec wz_X11_atPrice r_X11_atPrice).room s m args below meth c s.heap [] 0 0 Q (entryFrame m args 6) from hgo _ rfl
  intro Q hQ
  have w44 : ∀ (y0 : Int32), ∀ (H : Heap) (locs : List Loc) (ls : Array Slot), f_X11_atPrice_44 F sMo p1 p2 p3 p4 y0 = some res → va_P D vwCl (wMo K hMo sMo) H → va_S nOne s.heap H locs → lv_has ls 6 [(0, .ref (hMo 99)), (1, .int p1), (2, .int p2), (3, .int p3), (4, .int p4)] → W p l e (headSpec wz_X11_atPrice r_X11_atPrice).room s m args below meth c H locs 0 0 Q (F0 m 44 ls [.int y0]) := by
    intro y0 H locs ls hf hP hS hl
    unfold f_X11_atPrice_44 at hf
    refine lv_istore (lv' := [(5, .int y0), (0, .ref (hMo 99)), (1, .int p1), (2, .int p2), (3, .int p3), (4, .int p4)]) hx hb dX11_atPrice_44 hl (by decide) rfl (fun ls hl => ?_)
    refine lv_aload_n hx hb dX11_atPrice_46 rfl (lv_at hl 1 rfl) ?_
    refine lv_iload_n hx hb dX11_atPrice_47 rfl (lv_at hl 2 rfl) ?_
    refine lv_iload_n hx hb dX11_atPrice_48 rfl (lv_at hl 3 rfl) ?_
    refine lv_iload_n hx hb dX11_atPrice_49 rfl (lv_at hl 4 rfl) ?_
    refine lv_iload hx hb dX11_atPrice_50 (lv_at hl 0 rfl) ?_
    refine lv_iload hx hb dX11_atPrice_52 (lv_at hl 5 rfl) ?_
    obtain ⟨o6, go6, hf⟩ := bd_s hf
    refine ro_Vl (As := [.int p1, .int p2, .int p3, .int y0, .int p4]) (rest := []) ⟨hx, hb, hml, hown, hts⟩ (c_X11_comes1 l D K F hMo sMo p1 p2 p3 y0 p4 o6 go6) (cwV 5 hts (gcV_X11_comes1 (mB45 _ (List.mem_of_getElem? (i := 5) rfl))) rfl rfl rfl hdV_X11_comes1 ⟨Nat.le_of_ble_eq_true rfl, Nat.le_of_ble_eq_true rfl⟩) hK hP hS hP (va_recv hK hP (ci := 10) (q0 := 0) rfl o_Mo) rfl hl.1 rfl (Nat.le_of_ble_eq_true rfl) dX11_atPrice_54 ⟨Nat.zero_le _, Nat.zero_le _⟩ (fun H locs hP hS => ?_)
    have e9 := Option.some.inj hf
    rw [hQ]
    exact W.lret (v := o6) hx hb hr (fun t ht hW => ⟨⟨o6, (), rfl, e9, trivial⟩, hS.F ht⟩) hS.2.2 dX11_atPrice_57
  have w10 : ∀ (H : Heap) (locs : List Loc) (ls : Array Slot), f_X11_atPrice_10 F sMo p1 p2 p3 p4  = some res → va_P D vwCl (wMo K hMo sMo) H → va_S nOne s.heap H locs → lv_has ls 6 [(0, .ref (hMo 99)), (1, .int p1), (2, .int p2), (3, .int p3), (4, .int p4)] → W p l e (headSpec wz_X11_atPrice r_X11_atPrice).room s m args below meth c H locs 0 0 Q (F0 m 10 ls []) := by
    intro  H locs ls hf hP hS hl
    unfold f_X11_atPrice_10 at hf
    refine lv_aload_n hx hb dX11_atPrice_10 rfl (lv_at hl 0 rfl) ?_
    refine lv_iload_n hx hb dX11_atPrice_11 rfl (lv_at hl 1 rfl) ?_
    refine lv_iload_n hx hb dX11_atPrice_12 rfl (lv_at hl 2 rfl) ?_
    refine lv_iload_n hx hb dX11_atPrice_13 rfl (lv_at hl 3 rfl) ?_
    refine lv_iload hx hb dX11_atPrice_14 (lv_at hl 4 rfl) ?_
    obtain ⟨o5, go5, hf⟩ := bd_s hf
    refine ro_Vi (As := [.int p1, .int p2, .int p3, .int p4]) (rest := []) ⟨hx, hb, hml, hown, hts⟩ (c_X11_bestBuy l D K F hMo sMo p1 p2 p3 p4 o5 go5) (cwV 4 hts (gcV_X11_bestBuy (mB45 _ (List.mem_of_getElem? (i := 21) rfl))) rfl rfl rfl hdV_X11_bestBuy ⟨Nat.le_of_ble_eq_true rfl, Nat.le_of_ble_eq_true rfl⟩) hK hP hS hP (va_recv hK hP (ci := 10) (q0 := 0) rfl o_Mo) rfl hl.1 rfl (Nat.le_of_ble_eq_true rfl) dX11_atPrice_16 ⟨Nat.zero_le _, Nat.zero_le _⟩ (fun H locs hP hS => ?_)
    refine lv_goto (tgt := 44) hx hb dX11_atPrice_19 (by decide) ?_
    exact w44 o5 H locs ls hf hP hS (lv_sub hl [0, 1, 2, 3, 4] rfl)
  have w37 : ∀ (y1 : Int32), ∀ (H : Heap) (locs : List Loc) (ls : Array Slot), f_X11_atPrice_37 F sMo p1 p2 p3 p4 y1 = some res → va_P D vwCl (wMo K hMo sMo) H → va_S nOne s.heap H locs → lv_has ls 6 [(0, .ref (hMo 99)), (1, .int p1), (2, .int p2), (3, .int p3), (4, .int p4)] → W p l e (headSpec wz_X11_atPrice r_X11_atPrice).room s m args below meth c H locs 0 0 Q (F0 m 37 ls [.int y1, .ref (hMo 99)]) := by
    intro y1 H locs ls hf hP hS hl
    unfold f_X11_atPrice_37 at hf
    refine lv_iload_n hx hb dX11_atPrice_37 rfl (lv_at hl 2 rfl) ?_
    refine lv_iload_n hx hb dX11_atPrice_38 rfl (lv_at hl 3 rfl) ?_
    refine lv_iload hx hb dX11_atPrice_39 (lv_at hl 4 rfl) ?_
    obtain ⟨o4, go4, hf⟩ := bd_s hf
    refine ro_Vi (As := [.int y1, .int p2, .int p3, .int p4]) (rest := []) ⟨hx, hb, hml, hown, hts⟩ (c_X11_bought l D K F hMo sMo y1 p2 p3 p4 o4 go4) (cwV 4 hts (gcV_X11_bought (mB40 _ (List.mem_of_getElem? (i := 16) rfl))) rfl rfl rfl hdV_X11_bought ⟨Nat.le_of_ble_eq_true rfl, Nat.le_of_ble_eq_true rfl⟩) hK hP hS hP (va_recv hK hP (ci := 10) (q0 := 0) rfl o_Mo) rfl hl.1 rfl (Nat.le_of_ble_eq_true rfl) dX11_atPrice_41 ⟨Nat.zero_le _, Nat.zero_le _⟩ (fun H locs hP hS => ?_)
    exact w44 o4 H locs ls hf hP hS (lv_sub hl [0, 1, 2, 3, 4] rfl)
  have hen : entryFrame m args 6 = entryFrame m (([.ref (hMo 99), .int p1, .int p2, .int p3, .int p4] : List Value).toArray) 6 := by rw [hargs]
  have hl := lv_entry ([.ref (hMo 99), .int p1, .int p2, .int p3, .int p4]) (n := 6) (Nat.le_of_ble_eq_true rfl)
  rw [hen, lg_entry_eq]
  generalize (lg_sl ([.ref (hMo 99), .int p1, .int p2, .int p3, .int p4]) ++ List.replicate (6 - (lg_sl ([.ref (hMo 99), .int p1, .int p2, .int p3, .int p4])).length) Slot.unset).toArray = ls at hl ⊢
  have hl : lv_has ls 6 [(0, .ref (hMo 99)), (1, .int p1), (2, .int p2), (3, .int p3), (4, .int p4)] := hl
  unfold f_X11_atPrice at hf
  obtain ⟨H, hHe⟩ : ∃ z, z = s.heap := ⟨_, rfl⟩
  obtain ⟨locs, hLe⟩ : ∃ z : List Loc, z = [] := ⟨_, rfl⟩
  rw [← hLe]
  have hS : va_S nOne s.heap H locs := by rw [hHe, hLe]; exact hS
  have hP : va_P D vwCl (wMo K hMo sMo) H := by rw [hHe]; exact hP
  have hgo : W p l e (headSpec wz_X11_atPrice r_X11_atPrice).room s m args below meth c H locs 0 0 Q (F0 m 0 ls []) := by
    refine lv_iload_n hx hb dX11_atPrice_0 rfl (lv_at hl 1 rfl) ?_
    refine lv_iconst (v := (4 : Int32)) hx hb dX11_atPrice_1 (by decide) ?_
    refine lv_icmp_eq (tgt := 10) hx hb dX11_atPrice_2 (by decide) (fun c1 => ?_) (fun c1 => ?_)
    · have hf := it_t hf c1
      exact w10  H locs ls hf hP hS (lv_sub hl [0, 1, 2, 3, 4] rfl)
    · have hf := it_f hf c1
      refine lv_iload_n hx hb dX11_atPrice_5 rfl (lv_at hl 1 rfl) ?_
      refine lv_iconst (v := (5 : Int32)) hx hb dX11_atPrice_6 (by decide) ?_
      refine lv_icmp_ne (tgt := 22) hx hb dX11_atPrice_7 (by decide) (fun c2 => ?_) (fun c2 => ?_)
      · have hf := it_f hf c2
        refine lv_aload_n hx hb dX11_atPrice_22 rfl (lv_at hl 0 rfl) ?_
        refine lv_iload_n hx hb dX11_atPrice_23 rfl (lv_at hl 1 rfl) ?_
        refine lv_iconst (v := (5 : Int32)) hx hb dX11_atPrice_24 (by decide) ?_
        refine lv_icmp_le (tgt := 36) hx hb dX11_atPrice_25 (by decide) (fun c3 => ?_) (fun c3 => ?_)
        · have hf := it_t hf c3
          refine lv_iload_n hx hb dX11_atPrice_36 rfl (lv_at hl 1 rfl) ?_
          exact w37 p1 H locs ls hf hP hS (lv_sub hl [0, 1, 2, 3, 4] rfl)
        · have hf := it_f hf c3
          refine lv_iload_n hx hb dX11_atPrice_28 rfl (lv_at hl 1 rfl) ?_
          refine lv_iconst (v := (5 : Int32)) hx hb dX11_atPrice_29 (by decide) ?_
          refine lv_isub hx hb dX11_atPrice_30 ?_
          refine lv_iconst (v := (1 : Int32)) hx hb dX11_atPrice_31 (by decide) ?_
          refine lv_isub hx hb dX11_atPrice_32 ?_
          refine lv_goto (tgt := 37) hx hb dX11_atPrice_33 (by decide) ?_
          exact w37 ((p1 - (5 : Int32)) - (1 : Int32)) H locs ls hf hP hS (lv_sub hl [0, 1, 2, 3, 4] rfl)
      · have hf := it_t hf c2
        exact w10  H locs ls hf hP hS (lv_sub hl [0, 1, 2, 3, 4] rfl)
  rw [hHe] at hgo
  exact hgo

theorem gcV_X11_atPrice {T0 : Cond} {own : String} {i : Nat} (h : Cond.methodLink own i yX11_atPrice ∈ wsL_law) : GoodIn (T0 :: wsL_law) (wsV own i RX11 yX11_atPrice wz_X11_atPrice) := gV h (mB45 _ (List.mem_of_getElem? (i := 18) rfl)) (mB45 _ (List.mem_of_getElem? (i := 19) rfl)) (mB1 _ (List.mem_of_getElem? (i := 5) rfl)) (mB45 _ (List.mem_of_getElem? (i := 20) rfl))
theorem hdV_X11_atPrice : yX11_atPrice.cls = RX11 ∧ yX11_atPrice.cls ≠ "java/lang/invoke/MethodHandle" ∧ yX11_atPrice.cls ≠ "java/lang/invoke/VarHandle" ∧ (parseMethodDescriptor yX11_atPrice.desc).map (fun d => d.parameters.length) = some 4 := by decide +kernel
def wz_X11_meanAt : List Cond := .code yX11_meanAt cX11_meanAt 12 (some .long) :: wsL_law
abbrev r_X11_meanAt : Room := { frames := 6, cells := 0, slots := 0, locals := 148 }
set_option maxHeartbeats 4000000 in
set_option maxRecDepth 100000 in
theorem c_X11_meanAt (l : Launch) (D : va_G) (K : Nat → ClassId) (F : Nat) (hMo : Nat → Nat) (sMo : MS) (p1 : Int32) (p2 : Int32) (p3 : Int32) (res : Int64) (hf : f_X11_meanAt F sMo p1 p2 p3 = some res) : Met l yX11_meanAt wz_X11_meanAt r_X11_meanAt (va_Pc [.ref (hMo 99), .int p1, .int p2, .int p3] (PR D K (wMo K hMo sMo))) (va_Ql (fun r (_ : Unit) => r = res) BN nOne) 0 0 nOne := by
  refine Met.ofW (cc := cX11_meanAt) (maxL := 12) (ret := (some .long)) (by decide) rfl ?_
  intro p e s m args below meth c s₁ B hml hv
  obtain ⟨hargs, hP, hK⟩ := hv
  have hx := B.exec
  have hb := B.bytes
  have hr := B.returns
  have hts := atoms_spec (ws := wz_X11_meanAt) B.pre
  have htl : ∀ w ∈ wsL_law, w.before args s = true := fun w h => hts w (List.mem_cons_of_mem _ h)
  have hown : s.vm.findClass RX11 = some m.cls := findClass_of_methodNamed B.named
  have hlocks := B.notSynchronized
  have hS : va_S nOne s.heap s.heap [] := va_S.rf
  suffices hgo : ∀ Q : State → Prop, Q = MQ below (va_Ql (fun r (_ : Unit) => r = res) BN nOne) args s 0 0 nOne → W p l e (headSpec wz_X11_meanAt r_X11_meanAt).room s m args below meth c s.heap [] 0 0 Q (entryFrame m args 12) from hgo _ rfl
  intro Q hQ
  have w87 : ∀ (x5 : Int64), ∀ (x7 : Int32), ∀ (x8 : Int64), ∀ (y0 : Int64), ∀ (H : Heap) (locs : List Loc) (ls : Array Slot), f_X11_meanAt_87 F sMo p1 p2 p3 x5 x7 x8 y0 = some res → va_P D vwCl (wMo K hMo sMo) H → va_S nOne s.heap H locs → lv_has ls 12 [(5, .long x5), (7, .int x7), (8, .long x8)] → W p l e (headSpec wz_X11_meanAt r_X11_meanAt).room s m args below meth c H locs 0 0 Q (F0 m 87 ls [.long y0]) := by
    intro x5 x7 x8 y0 H locs ls hf hP hS hl
    unfold f_X11_meanAt_87 at hf
    refine lv_lstore (lv' := [(10, .long y0), (5, .long x5), (7, .int x7), (8, .long x8)]) hx hb dX11_meanAt_87 hl (by decide) rfl (fun ls hl => ?_)
    refine lv_ldc2 (v := (2 : Int64)) hx hb hown (htl _ (mB45 _ (List.mem_of_getElem? (i := 4) rfl))) dX11_meanAt_89 ?_
    refine lv_iload hx hb dX11_meanAt_92 (lv_at hl 2 rfl) ?_
    refine lv_i2l (v := x7.toInt64) hx hb dX11_meanAt_94 rfl ?_
    refine lv_lmul hx hb dX11_meanAt_95 ?_
    refine lv_lload hx hb dX11_meanAt_96 (lv_at hl 1 rfl) ?_
    refine lv_lmul hx hb dX11_meanAt_98 ?_
    refine lv_bipush (v := (10 : Int32)) hx hb dX11_meanAt_99 (by decide) ?_
    refine lv_iload hx hb dX11_meanAt_101 (lv_at hl 2 rfl) ?_
    refine lv_isub hx hb dX11_meanAt_103 ?_
    refine lv_i2l (v := ((10 : Int32) - x7).toInt64) hx hb dX11_meanAt_104 rfl ?_
    refine lv_lload hx hb dX11_meanAt_105 (lv_at hl 3 rfl) ?_
    refine lv_lmul hx hb dX11_meanAt_107 ?_
    refine lv_ladd hx hb dX11_meanAt_108 ?_
    refine lv_topl (fun v12 ev12 => ?_)
    have hf := lz_s hf v12 ev12
    refine lv_bipush (v := (10 : Int32)) hx hb dX11_meanAt_109 (by decide) ?_
    refine lv_iload hx hb dX11_meanAt_111 (lv_at hl 2 rfl) ?_
    refine lv_isub hx hb dX11_meanAt_113 ?_
    refine lv_i2l (v := ((10 : Int32) - x7).toInt64) hx hb dX11_meanAt_114 rfl ?_
    refine lv_lload hx hb dX11_meanAt_115 (lv_at hl 0 rfl) ?_
    refine lv_lmul hx hb dX11_meanAt_117 ?_
    refine lv_ladd hx hb dX11_meanAt_118 ?_
    have e9 := Option.some.inj hf
    rw [hQ]
    exact W.lret (v := (v12 + (((10 : Int32) - x7).toInt64 * y0))) hx hb hr (fun t ht hW => ⟨⟨(v12 + (((10 : Int32) - x7).toInt64 * y0)), (), rfl, e9, trivial⟩, hS.F ht⟩) hS.2.2 dX11_meanAt_119
  have hen : entryFrame m args 12 = entryFrame m (([.ref (hMo 99), .int p1, .int p2, .int p3] : List Value).toArray) 12 := by rw [hargs]
  have hl := lv_entry ([.ref (hMo 99), .int p1, .int p2, .int p3]) (n := 12) (Nat.le_of_ble_eq_true rfl)
  rw [hen, lg_entry_eq]
  generalize (lg_sl ([.ref (hMo 99), .int p1, .int p2, .int p3]) ++ List.replicate (12 - (lg_sl ([.ref (hMo 99), .int p1, .int p2, .int p3])).length) Slot.unset).toArray = ls at hl ⊢
  have hl : lv_has ls 12 [(0, .ref (hMo 99)), (1, .int p1), (2, .int p2), (3, .int p3)] := hl
  unfold f_X11_meanAt at hf
  obtain ⟨H, hHe⟩ : ∃ z, z = s.heap := ⟨_, rfl⟩
  obtain ⟨locs, hLe⟩ : ∃ z : List Loc, z = [] := ⟨_, rfl⟩
  rw [← hLe]
  have hS : va_S nOne s.heap H locs := by rw [hHe, hLe]; exact hS
  have hP : va_P D vwCl (wMo K hMo sMo) H := by rw [hHe]; exact hP
  have hgo : W p l e (headSpec wz_X11_meanAt r_X11_meanAt).room s m args below meth c H locs 0 0 Q (F0 m 0 ls []) := by
    refine lv_aload_n hx hb dX11_meanAt_0 rfl (lv_at hl 0 rfl) ?_
    refine lv_iload_n hx hb dX11_meanAt_1 rfl (lv_at hl 2 rfl) ?_
    obtain ⟨o1, go1, hf⟩ := bd_s hf
    refine ro_Vi (As := [.int p2]) (rest := []) ⟨hx, hb, hml, hown, hts⟩ (c_X11_placeOf l D K F hMo sMo p2 o1 go1) (cwV 1 hts (gcV_X11_placeOf (mB26 _ (List.mem_of_getElem? (i := 19) rfl))) rfl rfl rfl hdV_X11_placeOf ⟨Nat.le_of_ble_eq_true rfl, Nat.le_of_ble_eq_true rfl⟩) hK hP hS hP (va_recv hK hP (ci := 10) (q0 := 0) rfl o_Mo) rfl hl.1 rfl (Nat.le_of_ble_eq_true rfl) dX11_meanAt_2 ⟨Nat.zero_le _, Nat.zero_le _⟩ (fun H locs hP hS => ?_)
    refine lv_istore (lv' := [(4, .int o1), (0, .ref (hMo 99)), (1, .int p1), (2, .int p2), (3, .int p3)]) hx hb dX11_meanAt_5 hl (by decide) rfl (fun ls hl => ?_)
    refine lv_aload_n hx hb dX11_meanAt_7 rfl (lv_at hl 1 rfl) ?_
    refine lv_iload_n hx hb dX11_meanAt_8 rfl (lv_at hl 2 rfl) ?_
    refine lv_iload_n hx hb dX11_meanAt_9 rfl (lv_at hl 3 rfl) ?_
    refine lv_iload_n hx hb dX11_meanAt_10 rfl (lv_at hl 4 rfl) ?_
    refine lv_iconst (v := (0 : Int32)) hx hb dX11_meanAt_11 (by decide) ?_
    refine lv_iconst (v := (0 : Int32)) hx hb dX11_meanAt_12 (by decide) ?_
    obtain ⟨o2, go2, hf⟩ := bd_s hf
    refine ro_Vl (As := [.int p1, .int p2, .int p3, .int (0 : Int32), .int (0 : Int32)]) (rest := []) ⟨hx, hb, hml, hown, hts⟩ (c_X11_comes1 l D K F hMo sMo p1 p2 p3 (0 : Int32) (0 : Int32) o2 go2) (cwV 5 hts (gcV_X11_comes1 (mB45 _ (List.mem_of_getElem? (i := 5) rfl))) rfl rfl rfl hdV_X11_comes1 ⟨Nat.le_of_ble_eq_true rfl, Nat.le_of_ble_eq_true rfl⟩) hK hP hS hP (va_recv hK hP (ci := 10) (q0 := 0) rfl o_Mo) rfl hl.1 rfl (Nat.le_of_ble_eq_true rfl) dX11_meanAt_13 ⟨Nat.zero_le _, Nat.zero_le _⟩ (fun H locs hP hS => ?_)
    refine lv_lstore (lv' := [(5, .long o2), (4, .int o1), (0, .ref (hMo 99)), (1, .int p1), (2, .int p2), (3, .int p3)]) hx hb dX11_meanAt_16 hl (by decide) rfl (fun ls hl => ?_)
    refine lv_aload_n hx hb dX11_meanAt_18 rfl (lv_at hl 2 rfl) ?_
    refine lv_iload_n hx hb dX11_meanAt_19 rfl (lv_at hl 4 rfl) ?_
    obtain ⟨o3, go3, hf⟩ := bd_s hf
    refine ro_Vi (As := [.int p2]) (rest := []) ⟨hx, hb, hml, hown, hts⟩ (c_X11_priceAt l D K F hMo sMo p2 o3 go3) (cwV 1 hts (gcV_X11_priceAt (mB31 _ (List.mem_of_getElem? (i := 0) rfl))) rfl rfl rfl hdV_X11_priceAt ⟨Nat.le_of_ble_eq_true rfl, Nat.le_of_ble_eq_true rfl⟩) hK hP hS hP (va_recv hK hP (ci := 10) (q0 := 0) rfl o_Mo) rfl hl.1 rfl (Nat.le_of_ble_eq_true rfl) dX11_meanAt_20 ⟨Nat.zero_le _, Nat.zero_le _⟩ (fun H locs hP hS => ?_)
    refine lv_if_ne (tgt := 33) hx hb dX11_meanAt_23 (by decide) (fun c4 => ?_) (fun c4 => ?_)
    · have hf := it_f hf c4
      refine lv_aload_n hx hb dX11_meanAt_33 rfl (lv_at hl 2 rfl) ?_
      refine lv_iload hx hb dX11_meanAt_34 (lv_at hl 1 rfl) ?_
      refine lv_iconst (v := (2 : Int32)) hx hb dX11_meanAt_36 (by decide) ?_
      obtain ⟨o5, go5, hf⟩ := bd_s hf
      refine ro_Vi (As := [.int o1, .int (2 : Int32)]) (rest := []) ⟨hx, hb, hml, hown, hts⟩ (c_X11_pumpOf l D K F hMo sMo o1 (2 : Int32) o5 go5) (cwV 2 hts (gcV_X11_pumpOf (mB23 _ (List.mem_of_getElem? (i := 9) rfl))) rfl rfl rfl hdV_X11_pumpOf ⟨Nat.le_of_ble_eq_true rfl, Nat.le_of_ble_eq_true rfl⟩) hK hP hS hP (va_recv hK hP (ci := 10) (q0 := 0) rfl o_Mo) rfl hl.1 rfl (Nat.le_of_ble_eq_true rfl) dX11_meanAt_37 ⟨Nat.zero_le _, Nat.zero_le _⟩ (fun H locs hP hS => ?_)
      refine lv_istore (lv' := [(7, .int o5), (5, .long o2), (4, .int o1), (0, .ref (hMo 99)), (1, .int p1), (2, .int p2), (3, .int p3)]) hx hb dX11_meanAt_40 hl (by decide) rfl (fun ls hl => ?_)
      refine lv_aload_n hx hb dX11_meanAt_42 rfl (lv_at hl 3 rfl) ?_
      refine lv_iload_n hx hb dX11_meanAt_43 rfl (lv_at hl 4 rfl) ?_
      refine lv_iload_n hx hb dX11_meanAt_44 rfl (lv_at hl 5 rfl) ?_
      refine lv_iload_n hx hb dX11_meanAt_45 rfl (lv_at hl 6 rfl) ?_
      refine lv_aload_n hx hb dX11_meanAt_46 rfl (lv_at hl 3 rfl) ?_
      refine lv_iload hx hb dX11_meanAt_47 (lv_at hl 2 rfl) ?_
      refine lv_iconst (v := (0 : Int32)) hx hb dX11_meanAt_49 (by decide) ?_
      obtain ⟨o6, go6, hf⟩ := bd_s hf
      refine ro_Vi (As := [.int o1, .int (0 : Int32)]) (rest := [.int p3, .int p2, .int p1, .ref (hMo 99)]) ⟨hx, hb, hml, hown, hts⟩ (c_X11_pumpOf l D K F hMo sMo o1 (0 : Int32) o6 go6) (cwV 2 hts (gcV_X11_pumpOf (mB23 _ (List.mem_of_getElem? (i := 9) rfl))) rfl rfl rfl hdV_X11_pumpOf ⟨Nat.le_of_ble_eq_true rfl, Nat.le_of_ble_eq_true rfl⟩) hK hP hS hP (va_recv hK hP (ci := 10) (q0 := 0) rfl o_Mo) rfl hl.1 rfl (Nat.le_of_ble_eq_true rfl) dX11_meanAt_50 ⟨Nat.zero_le _, Nat.zero_le _⟩ (fun H locs hP hS => ?_)
      obtain ⟨o7, go7, hf⟩ := bd_s hf
      refine ro_Vl (As := [.int p1, .int p2, .int p3, .int o6]) (rest := []) ⟨hx, hb, hml, hown, hts⟩ (c_X11_atPrice l D K F hMo sMo p1 p2 p3 o6 o7 go7) (cwV 4 hts (gcV_X11_atPrice (mB45 _ (List.mem_of_getElem? (i := 17) rfl))) rfl rfl rfl hdV_X11_atPrice ⟨Nat.le_of_ble_eq_true rfl, Nat.le_of_ble_eq_true rfl⟩) hK hP hS hP (va_recv hK hP (ci := 10) (q0 := 0) rfl o_Mo) rfl hl.1 rfl (Nat.le_of_ble_eq_true rfl) dX11_meanAt_53 ⟨Nat.zero_le _, Nat.zero_le _⟩ (fun H locs hP hS => ?_)
      refine lv_lstore (lv' := [(8, .long o7), (7, .int o5), (5, .long o2), (4, .int o1), (0, .ref (hMo 99)), (1, .int p1), (2, .int p2), (3, .int p3)]) hx hb dX11_meanAt_56 hl (by decide) rfl (fun ls hl => ?_)
      refine lv_aload_n hx hb dX11_meanAt_58 rfl (lv_at hl 4 rfl) ?_
      refine lv_iload hx hb dX11_meanAt_59 (lv_at hl 3 rfl) ?_
      refine lv_iconst (v := (1 : Int32)) hx hb dX11_meanAt_61 (by decide) ?_
      obtain ⟨o8, go8, hf⟩ := bd_s hf
      refine ro_Vi (As := [.int o1, .int (1 : Int32)]) (rest := []) ⟨hx, hb, hml, hown, hts⟩ (c_X11_pumpOf l D K F hMo sMo o1 (1 : Int32) o8 go8) (cwV 2 hts (gcV_X11_pumpOf (mB23 _ (List.mem_of_getElem? (i := 9) rfl))) rfl rfl rfl hdV_X11_pumpOf ⟨Nat.le_of_ble_eq_true rfl, Nat.le_of_ble_eq_true rfl⟩) hK hP hS hP (va_recv hK hP (ci := 10) (q0 := 0) rfl o_Mo) rfl hl.1 rfl (Nat.le_of_ble_eq_true rfl) dX11_meanAt_62 ⟨Nat.zero_le _, Nat.zero_le _⟩ (fun H locs hP hS => ?_)
      refine lv_if_ne (tgt := 73) hx hb dX11_meanAt_65 (by decide) (fun c9 => ?_) (fun c9 => ?_)
      · have hf := it_f hf c9
        refine lv_aload_n hx hb dX11_meanAt_73 rfl (lv_at hl 4 rfl) ?_
        refine lv_iload_n hx hb dX11_meanAt_74 rfl (lv_at hl 5 rfl) ?_
        refine lv_iload_n hx hb dX11_meanAt_75 rfl (lv_at hl 6 rfl) ?_
        refine lv_iload_n hx hb dX11_meanAt_76 rfl (lv_at hl 7 rfl) ?_
        refine lv_aload_n hx hb dX11_meanAt_77 rfl (lv_at hl 4 rfl) ?_
        refine lv_iload hx hb dX11_meanAt_78 (lv_at hl 3 rfl) ?_
        refine lv_iconst (v := (1 : Int32)) hx hb dX11_meanAt_80 (by decide) ?_
        obtain ⟨o10, go10, hf⟩ := bd_s hf
        refine ro_Vi (As := [.int o1, .int (1 : Int32)]) (rest := [.int p3, .int p2, .int p1, .ref (hMo 99)]) ⟨hx, hb, hml, hown, hts⟩ (c_X11_pumpOf l D K F hMo sMo o1 (1 : Int32) o10 go10) (cwV 2 hts (gcV_X11_pumpOf (mB23 _ (List.mem_of_getElem? (i := 9) rfl))) rfl rfl rfl hdV_X11_pumpOf ⟨Nat.le_of_ble_eq_true rfl, Nat.le_of_ble_eq_true rfl⟩) hK hP hS hP (va_recv hK hP (ci := 10) (q0 := 0) rfl o_Mo) rfl hl.1 rfl (Nat.le_of_ble_eq_true rfl) dX11_meanAt_81 ⟨Nat.zero_le _, Nat.zero_le _⟩ (fun H locs hP hS => ?_)
        obtain ⟨o11, go11, hf⟩ := bd_s hf
        refine ro_Vl (As := [.int p1, .int p2, .int p3, .int o10]) (rest := []) ⟨hx, hb, hml, hown, hts⟩ (c_X11_atPrice l D K F hMo sMo p1 p2 p3 o10 o11 go11) (cwV 4 hts (gcV_X11_atPrice (mB45 _ (List.mem_of_getElem? (i := 17) rfl))) rfl rfl rfl hdV_X11_atPrice ⟨Nat.le_of_ble_eq_true rfl, Nat.le_of_ble_eq_true rfl⟩) hK hP hS hP (va_recv hK hP (ci := 10) (q0 := 0) rfl o_Mo) rfl hl.1 rfl (Nat.le_of_ble_eq_true rfl) dX11_meanAt_84 ⟨Nat.zero_le _, Nat.zero_le _⟩ (fun H locs hP hS => ?_)
        exact w87 o2 o5 o7 o11 H locs ls hf hP hS (lv_sub hl [2, 1, 0] rfl)
      · have hf := it_t hf c9
        refine lv_lload hx hb dX11_meanAt_68 (lv_at hl 0 rfl) ?_
        refine lv_goto (tgt := 87) hx hb dX11_meanAt_70 (by decide) ?_
        exact w87 o2 o5 o7 o7 H locs ls hf hP hS (lv_sub hl [2, 1, 0] rfl)
    · have hf := it_t hf c4
      refine lv_ldc2 (v := (20 : Int64)) hx hb hown (htl _ (mB45 _ (List.mem_of_getElem? (i := 3) rfl))) dX11_meanAt_26 ?_
      refine lv_lload hx hb dX11_meanAt_29 (lv_at hl 0 rfl) ?_
      refine lv_lmul hx hb dX11_meanAt_31 ?_
      have e9 := Option.some.inj hf
      rw [hQ]
      exact W.lret (v := ((20 : Int64) * o2)) hx hb hr (fun t ht hW => ⟨⟨((20 : Int64) * o2), (), rfl, e9, trivial⟩, hS.F ht⟩) hS.2.2 dX11_meanAt_32
  rw [hHe] at hgo
  exact hgo

theorem gcV_X11_meanAt {T0 : Cond} {own : String} {i : Nat} (h : Cond.methodLink own i yX11_meanAt ∈ wsL_law) : GoodIn (T0 :: wsL_law) (wsV own i RX11 yX11_meanAt wz_X11_meanAt) := gV h (mB45 _ (List.mem_of_getElem? (i := 0) rfl)) (mB45 _ (List.mem_of_getElem? (i := 1) rfl)) (mB1 _ (List.mem_of_getElem? (i := 5) rfl)) (mB45 _ (List.mem_of_getElem? (i := 2) rfl))
theorem hdV_X11_meanAt : yX11_meanAt.cls = RX11 ∧ yX11_meanAt.cls ≠ "java/lang/invoke/MethodHandle" ∧ yX11_meanAt.cls ≠ "java/lang/invoke/VarHandle" ∧ (parseMethodDescriptor yX11_meanAt.desc).map (fun d => d.parameters.length) = some 3 := by decide +kernel
def wz_X11_layMeans : List Cond := .code yX11_layMeans cX11_layMeans 4 none :: wsL_law
abbrev r_X11_layMeans : Room := { frames := 7, cells := 0, slots := 0, locals := 179 }
set_option maxHeartbeats 4000000 in
set_option maxRecDepth 100000 in
theorem c_X11_layMeans (l : Launch) (D : va_G) (K : Nat → ClassId) (F : Nat) (hMo : Nat → Nat) (sz : Nat) (sMo : MS) (p1 : Int32) (res : MS) (hf : f_X11_layMeans F p1 sMo = some res) : Met l yX11_layMeans wz_X11_layMeans r_X11_layMeans (va_Pc [.ref (hMo 99), .int p1] (PW D K (wMo K hMo sMo) sz)) (va_Qv (fun u => u = res) (fun u t => BW D K (va_A (wMo K hMo sMo) sz) (wMo K hMo u) t) (va_A (wMo K hMo sMo) sz)) 0 0 (va_A (wMo K hMo sMo) sz) := by
  refine Met.ofW (cc := cX11_layMeans) (maxL := 4) (ret := none) (by decide) rfl ?_
  intro p e s m args below meth c s₁ B hml hv
  obtain ⟨hargs, hsz, hP, hK, hD0⟩ := hv
  have hx := B.exec
  have hb := B.bytes
  have hr := B.returns
  have hts := atoms_spec (ws := wz_X11_layMeans) B.pre
  have htl : ∀ w ∈ wsL_law, w.before args s = true := fun w h => hts w (List.mem_cons_of_mem _ h)
  have hown : s.vm.findClass RX11 = some m.cls := findClass_of_methodNamed B.named
  have hlocks := B.notSynchronized
  subst hsz
  have hD := hD0.self (sz := s.heap.size)
  generalize hAe : va_A (wMo K hMo sMo) s.heap.size = A at hD ⊢
  have hA : ∀ q : Nat, s.heap.size ≤ q → A q := fun q h => by rw [← hAe]; exact Or.inr h
  have hS : va_S A s.heap s.heap [] := va_S.rf
  have iX11 : ∀ w ∈ wsX110, w ∈ wz_X11_layMeans := fun w h => List.mem_cons_of_mem _ (inlX11 w h)
  suffices hgo : ∀ Q : State → Prop, Q = MQ below (va_Qv (fun u => u = res) (fun u t => BW D K A (wMo K hMo u) t) A) args s 0 0 A → W p l e (headSpec wz_X11_layMeans r_X11_layMeans).room s m args below meth c s.heap [] 0 0 Q (entryFrame m args 4) from hgo _ rfl
  intro Q hQ
  have w89 : ∀ (k49 : Int32 → MS → Option MS), (∀ (x2 : Int32), ∀ (sMo : MS), ∀ (H : Heap) (locs : List Loc) (ls : Array Slot), k49 x2 sMo = some res → va_P D vwCl (wMo K hMo sMo) H → va_D A (wMo K hMo sMo) → va_S A s.heap H locs → lv_has ls 4 [(0, .ref (hMo 99)), (1, .int p1), (2, .int x2)] → W p l e (headSpec wz_X11_layMeans r_X11_layMeans).room s m args below meth c H locs 0 0 Q (F0 m 49 ls [])) → ∀ (x2 : Int32), ∀ (sMo : MS), ∀ (H : Heap) (locs : List Loc) (ls : Array Slot), f_X11_layMeans_89 F p1 k49 x2 sMo = some res → va_P D vwCl (wMo K hMo sMo) H → va_D A (wMo K hMo sMo) → va_S A s.heap H locs → lv_has ls 4 [(0, .ref (hMo 99)), (1, .int p1), (2, .int x2)] → W p l e (headSpec wz_X11_layMeans r_X11_layMeans).room s m args below meth c H locs 0 0 Q (F0 m 89 ls []) := by
    intro k49 hk49 x2 sMo H locs ls hf hP hD hS hl
    unfold f_X11_layMeans_89 at hf
    obtain ⟨v18, ev18⟩ : ∃ z : Int32, z = x2 + (-1 : Int32) := ⟨_, rfl⟩
    have hf := lz_s hf v18 ev18
    refine lv_iinc (v := v18) (lv' := [(2, .int v18), (0, .ref (hMo 99)), (1, .int p1)]) hx hb dX11_layMeans_89 hl (k := 2) rfl (by rw [ev18]; rfl) (by decide) rfl (fun ls hl => ?_)
    refine lv_goto (tgt := 49) hx hb dX11_layMeans_92 (by decide) ?_
    exact hk49 v18 sMo H locs ls hf hP hD hS (lv_sub hl [1, 2, 0] rfl)
  have w55 : ∀ (k49 : Int32 → MS → Option MS), (∀ (x2 : Int32), ∀ (sMo : MS), ∀ (H : Heap) (locs : List Loc) (ls : Array Slot), k49 x2 sMo = some res → va_P D vwCl (wMo K hMo sMo) H → va_D A (wMo K hMo sMo) → va_S A s.heap H locs → lv_has ls 4 [(0, .ref (hMo 99)), (1, .int p1), (2, .int x2)] → W p l e (headSpec wz_X11_layMeans r_X11_layMeans).room s m args below meth c H locs 0 0 Q (F0 m 49 ls [])) → ∀ (n : Nat), ∀ (x2 : Int32), ∀ (x3 : Int32), ∀ (sMo : MS), ∀ (H : Heap) (locs : List Loc) (ls : Array Slot), f_X11_layMeans_55 F p1 k49 n x2 x3 sMo = some res → va_P D vwCl (wMo K hMo sMo) H → va_D A (wMo K hMo sMo) → va_S A s.heap H locs → lv_has ls 4 [(0, .ref (hMo 99)), (1, .int p1), (2, .int x2), (3, .int x3)] → W p l e (headSpec wz_X11_layMeans r_X11_layMeans).room s m args below meth c H locs 0 0 Q (F0 m 55 ls []) := by
    intro k49 hk49 n
    induction n with
    | zero =>
      intro x2 x3 sMo H locs ls hf
      exact absurd (show none = some res from hf) (fun h => nomatch h)
    | succ n ih =>
      intro x2 x3 sMo H locs ls hf hP hD hS hl
      rw [f_X11_layMeans_55] at hf
      refine lv_iload_n hx hb dX11_layMeans_55 rfl (lv_at hl 3 rfl) ?_
      refine lv_aload_n hx hb dX11_layMeans_56 rfl (lv_at hl 0 rfl) ?_
      refine va_get (D := D) (ci := 10) (v := .ref (hMo 15)) (C := RX11) (T := TX11) (N := 41) hx hb hts iX11 hown hK hP 0 o_Mo rfl 15 (by decide) (htl _ (mB6 _ (List.mem_of_getElem? (i := 3) rfl))) (fun _ h9 => h9) rfl dX11_layMeans_57 ?_
      refine lv_iconst (v := (0 : Int32)) hx hb dX11_layMeans_60 (by decide) ?_
      obtain ⟨g11, hf⟩ := gd_s hf
      refine va_iald hx hb hK hP 3 0 (f := sMo.2.2.1 15) a_Mo_15 rfl (vpb_in g11) dX11_layMeans_61 ?_
      refine lv_topi (fun v12 ev12 => ?_)
      have hf := lz_s hf v12 ev12
      refine lv_icmp_gt (tgt := 89) hx hb dX11_layMeans_62 (by decide) (fun c13 => ?_) (fun c13 => ?_)
      · have hf := it_t hf c13
        exact w89 k49 hk49 x2 sMo H locs ls hf hP hD hS (lv_sub hl [0, 1, 2] rfl)
      · have hf := it_f hf c13
        refine lv_aload_n hx hb dX11_layMeans_65 rfl (lv_at hl 0 rfl) ?_
        refine va_get (D := D) (ci := 10) (v := .ref (hMo 27)) (C := RX11) (T := TX11) (N := 41) hx hb hts iX11 hown hK hP 0 o_Mo rfl 27 (by decide) (htl _ (mB6 _ (List.mem_of_getElem? (i := 12) rfl))) (fun _ h9 => h9) rfl dX11_layMeans_66 ?_
        refine lv_bipush (v := (41 : Int32)) hx hb dX11_layMeans_69 (by decide) ?_
        refine lv_iload_n hx hb dX11_layMeans_71 rfl (lv_at hl 2 rfl) ?_
        refine lv_imul hx hb dX11_layMeans_72 ?_
        refine lv_iload_n hx hb dX11_layMeans_73 rfl (lv_at hl 3 rfl) ?_
        refine lv_iadd hx hb dX11_layMeans_74 ?_
        refine lv_aload_n hx hb dX11_layMeans_75 rfl (lv_at hl 0 rfl) ?_
        refine lv_iload_n hx hb dX11_layMeans_76 rfl (lv_at hl 1 rfl) ?_
        refine lv_iload_n hx hb dX11_layMeans_77 rfl (lv_at hl 2 rfl) ?_
        refine lv_iload_n hx hb dX11_layMeans_78 rfl (lv_at hl 3 rfl) ?_
        obtain ⟨o14, go14, hf⟩ := bd_s hf
        refine ro_Vl (As := [.int p1, .int x2, .int x3]) (rest := [.int (((41 : Int32) * x2) + x3), .ref (hMo 27)]) ⟨hx, hb, hml, hown, hts⟩ (c_X11_meanAt l D K F hMo sMo p1 x2 x3 o14 go14) (cwV 3 hts (gcV_X11_meanAt (mB44 _ (List.mem_of_getElem? (i := 23) rfl))) rfl rfl rfl hdV_X11_meanAt ⟨Nat.le_of_ble_eq_true rfl, Nat.le_of_ble_eq_true rfl⟩) hK hP hS hP (va_recv hK hP (ci := 10) (q0 := 0) rfl o_Mo) rfl hl.1 rfl (Nat.le_of_ble_eq_true rfl) dX11_layMeans_79 ⟨Nat.zero_le _, Nat.zero_le _⟩ (fun H locs hP hS => ?_)
        obtain ⟨g15, hf⟩ := gd_s hf
        refine va_last hx hb hK hP hD hS 12 1 (f := sMo.2.2.2 27) a_Mo_27 rfl (vpb_in g15) dX11_layMeans_82 (fun H locs hP hD hS => ?_)
        have hP := cvP sa_Mo_27 hP
        have hD := cvD sa_Mo_27 hD
        obtain ⟨s16, es16⟩ : ∃ z, z = sB sMo 27 ((((41 : Int32) * x2) + x3).toNatClampNeg) o14 := ⟨_, rfl⟩
        have hP : va_P D vwCl (wMo K hMo s16) H := by rw [es16]; exact hP
        have hD : va_D A (wMo K hMo s16) := by rw [es16]; exact hD
        have hf := lz_s hf s16 es16
        obtain ⟨v17, ev17⟩ : ∃ z : Int32, z = x3 + (1 : Int32) := ⟨_, rfl⟩
        have hf := lz_s hf v17 ev17
        refine lv_iinc (v := v17) (lv' := [(3, .int v17), (0, .ref (hMo 99)), (1, .int p1), (2, .int x2)]) hx hb dX11_layMeans_83 hl (k := 3) rfl (by rw [ev17]; rfl) (by decide) rfl (fun ls hl => ?_)
        refine lv_goto (tgt := 55) hx hb dX11_layMeans_86 (by decide) ?_
        exact ih x2 v17 s16 H locs ls hf hP hD hS (lv_sub hl [1, 2, 3, 0] rfl)
  have w49 : ∀ (n : Nat), ∀ (x2 : Int32), ∀ (sMo : MS), ∀ (H : Heap) (locs : List Loc) (ls : Array Slot), f_X11_layMeans_49 F p1 n x2 sMo = some res → va_P D vwCl (wMo K hMo sMo) H → va_D A (wMo K hMo sMo) → va_S A s.heap H locs → lv_has ls 4 [(0, .ref (hMo 99)), (1, .int p1), (2, .int x2)] → W p l e (headSpec wz_X11_layMeans r_X11_layMeans).room s m args below meth c H locs 0 0 Q (F0 m 49 ls []) := by
    intro n
    induction n with
    | zero =>
      intro x2 sMo H locs ls hf
      exact absurd (show none = some res from hf) (fun h => nomatch h)
    | succ n ih =>
      intro x2 sMo H locs ls hf hP hD hS hl
      rw [f_X11_layMeans_49] at hf
      refine lv_iload_n hx hb dX11_layMeans_49 rfl (lv_at hl 2 rfl) ?_
      refine lv_if_lt (tgt := 95) hx hb dX11_layMeans_50 (by decide) (fun c10 => ?_) (fun c10 => ?_)
      · have hf := it_t hf c10
        have e9 := Option.some.inj hf
        rw [hQ]
        exact W.vret hx hb hr (fun t ht hW => ⟨⟨sMo, rfl, e9, ⟨by rw [ht]; exact hP, va_K.moved hW.alike hK, hD⟩⟩, hS.F ht⟩) hS.2.2 dX11_layMeans_95
      · have hf := it_f hf c10
        refine lv_iconst (v := (0 : Int32)) hx hb dX11_layMeans_53 (by decide) ?_
        refine lv_istore_n (lv' := [(3, .int (0 : Int32)), (0, .ref (hMo 99)), (1, .int p1), (2, .int x2)]) hx hb dX11_layMeans_54 rfl hl (by decide) rfl (fun ls hl => ?_)
        exact w55 (f_X11_layMeans_49 F p1 n) ih F x2 (0 : Int32) sMo H locs ls hf hP hD hS (lv_sub hl [1, 2, 3, 0] rfl)
  have w42 : ∀ (sMo : MS), ∀ (H : Heap) (locs : List Loc) (ls : Array Slot), f_X11_layMeans_42 F p1 sMo = some res → va_P D vwCl (wMo K hMo sMo) H → va_D A (wMo K hMo sMo) → va_S A s.heap H locs → lv_has ls 4 [(0, .ref (hMo 99)), (1, .int p1)] → W p l e (headSpec wz_X11_layMeans r_X11_layMeans).room s m args below meth c H locs 0 0 Q (F0 m 42 ls []) := by
    intro sMo H locs ls hf hP hD hS hl
    unfold f_X11_layMeans_42 at hf
    refine lv_aload_n hx hb dX11_layMeans_42 rfl (lv_at hl 0 rfl) ?_
    obtain ⟨o9, go9, hf⟩ := bd_s hf
    refine ro_Vi (As := []) (rest := []) ⟨hx, hb, hml, hown, hts⟩ (c_X11_lastStation l D K F hMo sMo o9 go9) (cwV 0 hts (gcV_X11_lastStation (mB28 _ (List.mem_of_getElem? (i := 11) rfl))) rfl rfl rfl hdV_X11_lastStation ⟨Nat.le_of_ble_eq_true rfl, Nat.le_of_ble_eq_true rfl⟩) hK hP hS hP (va_recv hK hP (ci := 10) (q0 := 0) rfl o_Mo) rfl hl.1 rfl (Nat.le_of_ble_eq_true rfl) dX11_layMeans_43 ⟨Nat.zero_le _, Nat.zero_le _⟩ (fun H locs hP hS => ?_)
    refine lv_iconst (v := (1 : Int32)) hx hb dX11_layMeans_46 (by decide) ?_
    refine lv_isub hx hb dX11_layMeans_47 ?_
    refine lv_istore_n (lv' := [(2, .int (o9 - (1 : Int32))), (0, .ref (hMo 99)), (1, .int p1)]) hx hb dX11_layMeans_48 rfl hl (by decide) rfl (fun ls hl => ?_)
    exact w49 F (o9 - (1 : Int32)) sMo H locs ls hf hP hD hS (lv_sub hl [1, 2, 0] rfl)
  have w35 : ∀ (k2 : Int32 → MS → Option MS), (∀ (x2 : Int32), ∀ (sMo : MS), ∀ (H : Heap) (locs : List Loc) (ls : Array Slot), k2 x2 sMo = some res → va_P D vwCl (wMo K hMo sMo) H → va_D A (wMo K hMo sMo) → va_S A s.heap H locs → lv_has ls 4 [(0, .ref (hMo 99)), (1, .int p1), (2, .int x2)] → W p l e (headSpec wz_X11_layMeans r_X11_layMeans).room s m args below meth c H locs 0 0 Q (F0 m 2 ls [])) → ∀ (x2 : Int32), ∀ (y1 : Int32), ∀ (y2 : Int64), ∀ (sMo : MS), ∀ (H : Heap) (locs : List Loc) (ls : Array Slot), f_X11_layMeans_35 F p1 k2 x2 y1 y2 sMo = some res → va_P D vwCl (wMo K hMo sMo) H → va_D A (wMo K hMo sMo) → va_S A s.heap H locs → lv_has ls 4 [(0, .ref (hMo 99)), (1, .int p1), (2, .int x2)] → W p l e (headSpec wz_X11_layMeans r_X11_layMeans).room s m args below meth c H locs 0 0 Q (F0 m 35 ls [.long y2, .int y1, .ref (hMo 27)]) := by
    intro k2 hk2 x2 y1 y2 sMo H locs ls hf hP hD hS hl
    unfold f_X11_layMeans_35 at hf
    obtain ⟨g6, hf⟩ := gd_s hf
    refine va_last hx hb hK hP hD hS 12 1 (f := sMo.2.2.2 27) a_Mo_27 rfl (vpb_in g6) dX11_layMeans_35 (fun H locs hP hD hS => ?_)
    have hP := cvP sa_Mo_27 hP
    have hD := cvD sa_Mo_27 hD
    obtain ⟨s7, es7⟩ : ∃ z, z = sB sMo 27 y1.toNatClampNeg y2 := ⟨_, rfl⟩
    have hP : va_P D vwCl (wMo K hMo s7) H := by rw [es7]; exact hP
    have hD : va_D A (wMo K hMo s7) := by rw [es7]; exact hD
    have hf := lz_s hf s7 es7
    obtain ⟨v8, ev8⟩ : ∃ z : Int32, z = x2 + (1 : Int32) := ⟨_, rfl⟩
    have hf := lz_s hf v8 ev8
    refine lv_iinc (v := v8) (lv' := [(2, .int v8), (0, .ref (hMo 99)), (1, .int p1)]) hx hb dX11_layMeans_36 hl (k := 2) rfl (by rw [ev8]; rfl) (by decide) rfl (fun ls hl => ?_)
    refine lv_goto (tgt := 2) hx hb dX11_layMeans_39 (by decide) ?_
    exact hk2 v8 s7 H locs ls hf hP hD hS (lv_sub hl [1, 2, 0] rfl)
  have w2 : ∀ (n : Nat), ∀ (x2 : Int32), ∀ (sMo : MS), ∀ (H : Heap) (locs : List Loc) (ls : Array Slot), f_X11_layMeans_2 F p1 n x2 sMo = some res → va_P D vwCl (wMo K hMo sMo) H → va_D A (wMo K hMo sMo) → va_S A s.heap H locs → lv_has ls 4 [(0, .ref (hMo 99)), (1, .int p1), (2, .int x2)] → W p l e (headSpec wz_X11_layMeans r_X11_layMeans).room s m args below meth c H locs 0 0 Q (F0 m 2 ls []) := by
    intro n
    induction n with
    | zero =>
      intro x2 sMo H locs ls hf
      exact absurd (show none = some res from hf) (fun h => nomatch h)
    | succ n ih =>
      intro x2 sMo H locs ls hf hP hD hS hl
      rw [f_X11_layMeans_2] at hf
      refine lv_iload_n hx hb dX11_layMeans_2 rfl (lv_at hl 2 rfl) ?_
      refine lv_aload_n hx hb dX11_layMeans_3 rfl (lv_at hl 0 rfl) ?_
      refine va_get (D := D) (ci := 10) (v := .ref (hMo 15)) (C := RX11) (T := TX11) (N := 41) hx hb hts iX11 hown hK hP 0 o_Mo rfl 15 (by decide) (htl _ (mB6 _ (List.mem_of_getElem? (i := 3) rfl))) (fun _ h9 => h9) rfl dX11_layMeans_4 ?_
      refine lv_iconst (v := (0 : Int32)) hx hb dX11_layMeans_7 (by decide) ?_
      obtain ⟨g1, hf⟩ := gd_s hf
      refine va_iald hx hb hK hP 3 0 (f := sMo.2.2.1 15) a_Mo_15 rfl (vpb_in g1) dX11_layMeans_8 ?_
      refine lv_topi (fun v2 ev2 => ?_)
      have hf := lz_s hf v2 ev2
      refine lv_icmp_gt (tgt := 42) hx hb dX11_layMeans_9 (by decide) (fun c3 => ?_) (fun c3 => ?_)
      · have hf := it_t hf c3
        exact w42 sMo H locs ls hf hP hD hS (lv_sub hl [0, 1] rfl)
      · have hf := it_f hf c3
        refine lv_aload_n hx hb dX11_layMeans_12 rfl (lv_at hl 0 rfl) ?_
        refine va_get (D := D) (ci := 10) (v := .ref (hMo 27)) (C := RX11) (T := TX11) (N := 41) hx hb hts iX11 hown hK hP 0 o_Mo rfl 27 (by decide) (htl _ (mB6 _ (List.mem_of_getElem? (i := 12) rfl))) (fun _ h9 => h9) rfl dX11_layMeans_13 ?_
        refine lv_bipush (v := (41 : Int32)) hx hb dX11_layMeans_16 (by decide) ?_
        refine lv_aload_n hx hb dX11_layMeans_18 rfl (lv_at hl 0 rfl) ?_
        obtain ⟨o4, go4, hf⟩ := bd_s hf
        refine ro_Vi (As := []) (rest := [.int (41 : Int32), .ref (hMo 27)]) ⟨hx, hb, hml, hown, hts⟩ (c_X11_lastStation l D K F hMo sMo o4 go4) (cwV 0 hts (gcV_X11_lastStation (mB28 _ (List.mem_of_getElem? (i := 11) rfl))) rfl rfl rfl hdV_X11_lastStation ⟨Nat.le_of_ble_eq_true rfl, Nat.le_of_ble_eq_true rfl⟩) hK hP hS hP (va_recv hK hP (ci := 10) (q0 := 0) rfl o_Mo) rfl hl.1 rfl (Nat.le_of_ble_eq_true rfl) dX11_layMeans_19 ⟨Nat.zero_le _, Nat.zero_le _⟩ (fun H locs hP hS => ?_)
        refine lv_imul hx hb dX11_layMeans_22 ?_
        refine lv_iload_n hx hb dX11_layMeans_23 rfl (lv_at hl 2 rfl) ?_
        refine lv_iadd hx hb dX11_layMeans_24 ?_
        refine lv_iload_n hx hb dX11_layMeans_25 rfl (lv_at hl 1 rfl) ?_
        refine lv_iconst (v := (5 : Int32)) hx hb dX11_layMeans_26 (by decide) ?_
        refine lv_icmp_lt (tgt := 34) hx hb dX11_layMeans_27 (by decide) (fun c5 => ?_) (fun c5 => ?_)
        · have hf := it_t hf c5
          refine lv_lconst (v := (0 : Int64)) hx hb dX11_layMeans_34 (by decide) ?_
          exact w35 (f_X11_layMeans_2 F p1 n) ih x2 (((41 : Int32) * o4) + x2) (0 : Int64) sMo H locs ls hf hP hD hS (lv_sub hl [0, 1, 2] rfl)
        · have hf := it_f hf c5
          refine lv_lconst (v := (1 : Int64)) hx hb dX11_layMeans_30 (by decide) ?_
          refine lv_goto (tgt := 35) hx hb dX11_layMeans_31 (by decide) ?_
          exact w35 (f_X11_layMeans_2 F p1 n) ih x2 (((41 : Int32) * o4) + x2) (1 : Int64) sMo H locs ls hf hP hD hS (lv_sub hl [0, 1, 2] rfl)
  have hen : entryFrame m args 4 = entryFrame m (([.ref (hMo 99), .int p1] : List Value).toArray) 4 := by rw [hargs]
  have hl := lv_entry ([.ref (hMo 99), .int p1]) (n := 4) (Nat.le_of_ble_eq_true rfl)
  rw [hen, lg_entry_eq]
  generalize (lg_sl ([.ref (hMo 99), .int p1]) ++ List.replicate (4 - (lg_sl ([.ref (hMo 99), .int p1])).length) Slot.unset).toArray = ls at hl ⊢
  have hl : lv_has ls 4 [(0, .ref (hMo 99)), (1, .int p1)] := hl
  unfold f_X11_layMeans at hf
  obtain ⟨H, hHe⟩ : ∃ z, z = s.heap := ⟨_, rfl⟩
  obtain ⟨locs, hLe⟩ : ∃ z : List Loc, z = [] := ⟨_, rfl⟩
  rw [← hLe]
  have hS : va_S A s.heap H locs := by rw [hHe, hLe]; exact hS
  have hP : va_P D vwCl (wMo K hMo sMo) H := by rw [hHe]; exact hP
  have hgo : W p l e (headSpec wz_X11_layMeans r_X11_layMeans).room s m args below meth c H locs 0 0 Q (F0 m 0 ls []) := by
    refine lv_iconst (v := (0 : Int32)) hx hb dX11_layMeans_0 (by decide) ?_
    refine lv_istore_n (lv' := [(2, .int (0 : Int32)), (0, .ref (hMo 99)), (1, .int p1)]) hx hb dX11_layMeans_1 rfl hl (by decide) rfl (fun ls hl => ?_)
    exact w2 F (0 : Int32) sMo H locs ls hf hP hD hS (lv_sub hl [1, 2, 0] rfl)
  rw [hHe] at hgo
  exact hgo

theorem gcV_X11_layMeans {T0 : Cond} {own : String} {i : Nat} (h : Cond.methodLink own i yX11_layMeans ∈ wsL_law) : GoodIn (T0 :: wsL_law) (wsV own i RX11 yX11_layMeans wz_X11_layMeans) := gV h (mB44 _ (List.mem_of_getElem? (i := 20) rfl)) (mB44 _ (List.mem_of_getElem? (i := 21) rfl)) (mB1 _ (List.mem_of_getElem? (i := 5) rfl)) (mB44 _ (List.mem_of_getElem? (i := 22) rfl))
theorem hdV_X11_layMeans : yX11_layMeans.cls = RX11 ∧ yX11_layMeans.cls ≠ "java/lang/invoke/MethodHandle" ∧ yX11_layMeans.cls ≠ "java/lang/invoke/VarHandle" ∧ (parseMethodDescriptor yX11_layMeans.desc).map (fun d => d.parameters.length) = some 1 := by decide +kernel
theorem gcS_X11_lowest {T0 : Cond} {own : String} {i : Nat} (h : Cond.methodLink own i yX11_lowest ∈ wsL_law) : GoodIn (T0 :: wsL_law) (va_wsS own i yX11_lowest wz_X11_lowest) := gS h (mB46 _ (List.mem_of_getElem? (i := 2) rfl)) (mB1 _ (List.mem_of_getElem? (i := 5) rfl)) (mB46 _ (List.mem_of_getElem? (i := 3) rfl))
theorem hdS_X11_lowest : yX11_lowest.cls ≠ "java/lang/invoke/MethodHandle" ∧ yX11_lowest.cls ≠ "java/lang/invoke/VarHandle" ∧ (parseMethodDescriptor yX11_lowest.desc).map (fun d => d.parameters.length) = some 3 := by decide +kernel
def wz_X11_meanOf : List Cond := .code yX11_meanOf cX11_meanOf 3 (some .long) :: wsL_law
abbrev r_X11_meanOf : Room := { frames := 8, cells := 0, slots := 0, locals := 202 }
set_option maxHeartbeats 4000000 in
set_option maxRecDepth 100000 in
theorem c_X11_meanOf (l : Launch) (D : va_G) (K : Nat → ClassId) (F : Nat) (hMo : Nat → Nat) (sz : Nat) (sMo : MS) (p1 : Int32) (p2 : Int32) (res : Int64 × MS) (hf : f_X11_meanOf F p1 p2 sMo = some res) : Met l yX11_meanOf wz_X11_meanOf r_X11_meanOf (va_Pc [.ref (hMo 99), .int p1, .int p2] (PW D K (wMo K hMo sMo) sz)) (va_Ql (fun r u => r = res.1 ∧ u = res.2) (fun u t => BW D K (va_A (wMo K hMo sMo) sz) (wMo K hMo u) t) (va_A (wMo K hMo sMo) sz)) 0 0 (va_A (wMo K hMo sMo) sz) := by
  refine Met.ofW (cc := cX11_meanOf) (maxL := 3) (ret := (some .long)) (by decide) rfl ?_
  intro p e s m args below meth c s₁ B hml hv
  obtain ⟨hargs, hsz, hP, hK, hD0⟩ := hv
  have hx := B.exec
  have hb := B.bytes
  have hr := B.returns
  have hts := atoms_spec (ws := wz_X11_meanOf) B.pre
  have htl : ∀ w ∈ wsL_law, w.before args s = true := fun w h => hts w (List.mem_cons_of_mem _ h)
  have hown : s.vm.findClass RX11 = some m.cls := findClass_of_methodNamed B.named
  have hlocks := B.notSynchronized
  subst hsz
  have hD := hD0.self (sz := s.heap.size)
  generalize hAe : va_A (wMo K hMo sMo) s.heap.size = A at hD ⊢
  have hA : ∀ q : Nat, s.heap.size ≤ q → A q := fun q h => by rw [← hAe]; exact Or.inr h
  have hS : va_S A s.heap s.heap [] := va_S.rf
  have iX11 : ∀ w ∈ wsX110, w ∈ wz_X11_meanOf := fun w h => List.mem_cons_of_mem _ (inlX11 w h)
  suffices hgo : ∀ Q : State → Prop, Q = MQ below (va_Ql (fun r u => r = res.1 ∧ u = res.2) (fun u t => BW D K A (wMo K hMo u) t) A) args s 0 0 A → W p l e (headSpec wz_X11_meanOf r_X11_meanOf).room s m args below meth c s.heap [] 0 0 Q (entryFrame m args 3) from hgo _ rfl
  intro Q hQ
  have hen : entryFrame m args 3 = entryFrame m (([.ref (hMo 99), .int p1, .int p2] : List Value).toArray) 3 := by rw [hargs]
  have hl := lv_entry ([.ref (hMo 99), .int p1, .int p2]) (n := 3) (Nat.le_of_ble_eq_true rfl)
  rw [hen, lg_entry_eq]
  generalize (lg_sl ([.ref (hMo 99), .int p1, .int p2]) ++ List.replicate (3 - (lg_sl ([.ref (hMo 99), .int p1, .int p2])).length) Slot.unset).toArray = ls at hl ⊢
  have hl : lv_has ls 3 [(0, .ref (hMo 99)), (1, .int p1), (2, .int p2)] := hl
  unfold f_X11_meanOf at hf
  obtain ⟨H, hHe⟩ : ∃ z, z = s.heap := ⟨_, rfl⟩
  obtain ⟨locs, hLe⟩ : ∃ z : List Loc, z = [] := ⟨_, rfl⟩
  rw [← hLe]
  have hS : va_S A s.heap H locs := by rw [hHe, hLe]; exact hS
  have hP : va_P D vwCl (wMo K hMo sMo) H := by rw [hHe]; exact hP
  have hgo : W p l e (headSpec wz_X11_meanOf r_X11_meanOf).room s m args below meth c H locs 0 0 Q (F0 m 0 ls []) := by
    refine lv_aload_n hx hb dX11_meanOf_0 rfl (lv_at hl 0 rfl) ?_
    refine lv_iload_n hx hb dX11_meanOf_1 rfl (lv_at hl 1 rfl) ?_
    obtain ⟨o1, go1, hf⟩ := bd_s hf
    refine rs_Vv (As := [.int p1]) (rest := []) ⟨hx, hb, hml, hown, hts⟩ (c_X11_layMeans l D K F hMo H.size sMo p1 o1 go1) (cwV 1 hts (gcV_X11_layMeans (mB44 _ (List.mem_of_getElem? (i := 19) rfl))) rfl rfl rfl hdV_X11_layMeans ⟨Nat.le_of_ble_eq_true rfl, Nat.le_of_ble_eq_true rfl⟩) hK hP hD hS hA (va_recv hK hP (ci := 10) (q0 := 0) rfl o_Mo) rfl hl.1 rfl (Nat.le_of_ble_eq_true rfl) dX11_meanOf_2 ⟨Nat.zero_le _, Nat.zero_le _⟩ (fun H locs hP hD hS => ?_)
    have hP : va_P D vwCl (wMo K hMo o1) H := hP
    have hD : va_D A (wMo K hMo o1) := hD
    refine lv_aload_n hx hb dX11_meanOf_5 rfl (lv_at hl 0 rfl) ?_
    refine va_get (D := D) (ci := 10) (v := .ref (hMo 27)) (C := RX11) (T := TX11) (N := 41) hx hb hts iX11 hown hK hP 0 o_Mo rfl 27 (by decide) (htl _ (mB6 _ (List.mem_of_getElem? (i := 12) rfl))) (fun _ h9 => h9) rfl dX11_meanOf_6 ?_
    refine lv_aload_n hx hb dX11_meanOf_9 rfl (lv_at hl 0 rfl) ?_
    refine va_get (D := D) (ci := 10) (v := .ref (hMo 15)) (C := RX11) (T := TX11) (N := 41) hx hb hts iX11 hown hK hP 0 o_Mo rfl 15 (by decide) (htl _ (mB6 _ (List.mem_of_getElem? (i := 3) rfl))) (fun _ h9 => h9) rfl dX11_meanOf_10 ?_
    refine lv_iconst (v := (1 : Int32)) hx hb dX11_meanOf_13 (by decide) ?_
    obtain ⟨g2, hf⟩ := gd_s hf
    refine va_iald hx hb hK hP 3 0 (f := o1.2.2.1 15) a_Mo_15 rfl (vpb_in g2) dX11_meanOf_14 ?_
    refine lv_topi (fun v3 ev3 => ?_)
    have hf := lz_s hf v3 ev3
    obtain ⟨g4, hf⟩ := gd_s hf
    refine va_lald hx hb hK hP 12 1 (f := o1.2.2.2 27) a_Mo_27 rfl (vpb_in g4) dX11_meanOf_15 ?_
    refine lv_aload_n hx hb dX11_meanOf_16 rfl (lv_at hl 0 rfl) ?_
    refine lv_iconst (v := (0 : Int32)) hx hb dX11_meanOf_17 (by decide) ?_
    obtain ⟨o5, go5, hf⟩ := bd_s hf
    refine ro_Vl (As := [.int (0 : Int32)]) (rest := [.long (o1.2.2.2 27 v3.toNatClampNeg)]) ⟨hx, hb, hml, hown, hts⟩ (c_X11_twenties l D K F hMo o1 (0 : Int32) o5 go5) (cwV 1 hts (gcV_X11_twenties (mB45 _ (List.mem_of_getElem? (i := 13) rfl))) rfl rfl rfl hdV_X11_twenties ⟨Nat.le_of_ble_eq_true rfl, Nat.le_of_ble_eq_true rfl⟩) hK hP hS hP (va_recv hK hP (ci := 10) (q0 := 0) rfl o_Mo) rfl hl.1 rfl (Nat.le_of_ble_eq_true rfl) dX11_meanOf_18 ⟨Nat.zero_le _, Nat.zero_le _⟩ (fun H locs hP hS => ?_)
    refine lv_iload_n hx hb dX11_meanOf_21 rfl (lv_at hl 2 rfl) ?_
    obtain ⟨o6, go6, hf⟩ := bd_s hf
    refine ro_Sl (As := [.long (o1.2.2.2 27 v3.toNatClampNeg), .long o5, .int p2]) (rest := []) ⟨hx, hb, hml, hown, hts⟩ (c_X11_lowest l D K F (o1.2.2.2 27 v3.toNatClampNeg) o5 p2 o6 go6) (va_cwS 3 hts (gcS_X11_lowest (mB46 _ (List.mem_of_getElem? (i := 1) rfl))) rfl rfl rfl hdS_X11_lowest ⟨Nat.le_of_ble_eq_true rfl, Nat.le_of_ble_eq_true rfl⟩) hK hP hS va_Pnil rfl hl.1 rfl (Nat.le_of_ble_eq_true rfl) dX11_meanOf_22 ⟨Nat.zero_le _, Nat.zero_le _⟩ (fun H locs hP hS => ?_)
    have e9 := Option.some.inj hf
    rw [hQ]
    exact W.lret (v := o6) hx hb hr (fun t ht hW => ⟨⟨o6, o1, rfl, ⟨pr1 e9, pr2 e9⟩, ⟨by rw [ht]; exact hP, va_K.moved hW.alike hK, hD⟩⟩, hS.F ht⟩) hS.2.2 dX11_meanOf_25
  rw [hHe] at hgo
  exact hgo

theorem gcV_X11_meanOf {T0 : Cond} {own : String} {i : Nat} (h : Cond.methodLink own i yX11_meanOf ∈ wsL_law) : GoodIn (T0 :: wsL_law) (wsV own i RX11 yX11_meanOf wz_X11_meanOf) := gV h (mB44 _ (List.mem_of_getElem? (i := 16) rfl)) (mB44 _ (List.mem_of_getElem? (i := 17) rfl)) (mB1 _ (List.mem_of_getElem? (i := 5) rfl)) (mB44 _ (List.mem_of_getElem? (i := 18) rfl))
theorem hdV_X11_meanOf : yX11_meanOf.cls = RX11 ∧ yX11_meanOf.cls ≠ "java/lang/invoke/MethodHandle" ∧ yX11_meanOf.cls ≠ "java/lang/invoke/VarHandle" ∧ (parseMethodDescriptor yX11_meanOf.desc).map (fun d => d.parameters.length) = some 2 := by decide +kernel
def wz_X11_mean : List Cond := .code yX11_mean cX11_mean 3 (some .long) :: wsL_law
abbrev r_X11_mean : Room := { frames := 9, cells := 0, slots := 0, locals := 224 }
set_option maxHeartbeats 4000000 in
set_option maxRecDepth 100000 in
theorem c_X11_mean (l : Launch) (D : va_G) (K : Nat → ClassId) (F : Nat) (hMo : Nat → Nat) (sz : Nat) (sMo : MS) (p1 : Int32) (p2 : Int32) (res : Int64 × MS) (hf : f_X11_mean F p1 p2 sMo = some res) : Met l yX11_mean wz_X11_mean r_X11_mean (va_Pc [.ref (hMo 99), .int p1, .int p2] (PW D K (wMo K hMo sMo) sz)) (va_Ql (fun r u => r = res.1 ∧ u = res.2) (fun u t => BW D K (va_A (wMo K hMo sMo) sz) (wMo K hMo u) t) (va_A (wMo K hMo sMo) sz)) 0 0 (va_A (wMo K hMo sMo) sz) := by
  refine Met.ofW (cc := cX11_mean) (maxL := 3) (ret := (some .long)) (by decide) rfl ?_
  intro p e s m args below meth c s₁ B hml hv
  obtain ⟨hargs, hsz, hP, hK, hD0⟩ := hv
  have hx := B.exec
  have hb := B.bytes
  have hr := B.returns
  have hts := atoms_spec (ws := wz_X11_mean) B.pre
  have htl : ∀ w ∈ wsL_law, w.before args s = true := fun w h => hts w (List.mem_cons_of_mem _ h)
  have hown : s.vm.findClass RX11 = some m.cls := findClass_of_methodNamed B.named
  have hlocks := B.notSynchronized
  subst hsz
  have hD := hD0.self (sz := s.heap.size)
  generalize hAe : va_A (wMo K hMo sMo) s.heap.size = A at hD ⊢
  have hA : ∀ q : Nat, s.heap.size ≤ q → A q := fun q h => by rw [← hAe]; exact Or.inr h
  have hS : va_S A s.heap s.heap [] := va_S.rf
  suffices hgo : ∀ Q : State → Prop, Q = MQ below (va_Ql (fun r u => r = res.1 ∧ u = res.2) (fun u t => BW D K A (wMo K hMo u) t) A) args s 0 0 A → W p l e (headSpec wz_X11_mean r_X11_mean).room s m args below meth c s.heap [] 0 0 Q (entryFrame m args 3) from hgo _ rfl
  intro Q hQ
  have hen : entryFrame m args 3 = entryFrame m (([.ref (hMo 99), .int p1, .int p2] : List Value).toArray) 3 := by rw [hargs]
  have hl := lv_entry ([.ref (hMo 99), .int p1, .int p2]) (n := 3) (Nat.le_of_ble_eq_true rfl)
  rw [hen, lg_entry_eq]
  generalize (lg_sl ([.ref (hMo 99), .int p1, .int p2]) ++ List.replicate (3 - (lg_sl ([.ref (hMo 99), .int p1, .int p2])).length) Slot.unset).toArray = ls at hl ⊢
  have hl : lv_has ls 3 [(0, .ref (hMo 99)), (1, .int p1), (2, .int p2)] := hl
  unfold f_X11_mean at hf
  obtain ⟨H, hHe⟩ : ∃ z, z = s.heap := ⟨_, rfl⟩
  obtain ⟨locs, hLe⟩ : ∃ z : List Loc, z = [] := ⟨_, rfl⟩
  rw [← hLe]
  have hS : va_S A s.heap H locs := by rw [hHe, hLe]; exact hS
  have hP : va_P D vwCl (wMo K hMo sMo) H := by rw [hHe]; exact hP
  have hgo : W p l e (headSpec wz_X11_mean r_X11_mean).room s m args below meth c H locs 0 0 Q (F0 m 0 ls []) := by
    refine lv_aload_n hx hb dX11_mean_0 rfl (lv_at hl 0 rfl) ?_
    obtain ⟨o1, go1, hf⟩ := bd_s hf
    refine rs_Vv (As := []) (rest := []) ⟨hx, hb, hml, hown, hts⟩ (c_X11_good l D K F hMo H.size sMo o1 go1) (cwV 0 hts (gcV_X11_good (mB18 _ (List.mem_of_getElem? (i := 7) rfl))) rfl rfl rfl hdV_X11_good ⟨Nat.le_of_ble_eq_true rfl, Nat.le_of_ble_eq_true rfl⟩) hK hP hD hS hA (va_recv hK hP (ci := 10) (q0 := 0) rfl o_Mo) rfl hl.1 rfl (Nat.le_of_ble_eq_true rfl) dX11_mean_1 ⟨Nat.zero_le _, Nat.zero_le _⟩ (fun H locs hP hD hS => ?_)
    have hP : va_P D vwCl (wMo K hMo o1) H := hP
    have hD : va_D A (wMo K hMo o1) := hD
    refine lv_aload_n hx hb dX11_mean_4 rfl (lv_at hl 0 rfl) ?_
    refine lv_iload_n hx hb dX11_mean_5 rfl (lv_at hl 1 rfl) ?_
    obtain ⟨o2, go2, hf⟩ := bd_s hf
    refine ro_Vi (As := [.int p1]) (rest := []) ⟨hx, hb, hml, hown, hts⟩ (c_X11_isRule l D K F hMo o1 p1 o2 go2) (cwV 1 hts (gcV_X11_isRule (mB40 _ (List.mem_of_getElem? (i := 8) rfl))) rfl rfl rfl hdV_X11_isRule ⟨Nat.le_of_ble_eq_true rfl, Nat.le_of_ble_eq_true rfl⟩) hK hP hS hP (va_recv hK hP (ci := 10) (q0 := 0) rfl o_Mo) rfl hl.1 rfl (Nat.le_of_ble_eq_true rfl) dX11_mean_6 ⟨Nat.zero_le _, Nat.zero_le _⟩ (fun H locs hP hS => ?_)
    refine lv_if_eq (tgt := 21) hx hb dX11_mean_9 (by decide) (fun c3 => ?_) (fun c3 => ?_)
    · have hf := it_t hf c3
      refine lv_aload_n hx hb dX11_mean_21 rfl (lv_at hl 0 rfl) ?_
      refine lv_iconst (v := (1 : Int32)) hx hb dX11_mean_22 (by decide) ?_
      obtain ⟨o4, go4, hf⟩ := bd_s hf
      refine rs_Vi (As := [.int (1 : Int32)]) (rest := []) ⟨hx, hb, hml, hown, hts⟩ (c_X11_no l D K F hMo H.size o1 (1 : Int32) o4 go4) (cwV 1 hts (gcV_X11_no (mB18 _ (List.mem_of_getElem? (i := 15) rfl))) rfl rfl rfl hdV_X11_no ⟨Nat.le_of_ble_eq_true rfl, Nat.le_of_ble_eq_true rfl⟩) hK hP hD hS hA (va_recv hK hP (ci := 10) (q0 := 0) rfl o_Mo) rfl hl.1 rfl (Nat.le_of_ble_eq_true rfl) dX11_mean_23 ⟨Nat.zero_le _, Nat.zero_le _⟩ (fun H locs hP hD hS => ?_)
      have hP : va_P D vwCl (wMo K hMo o4.2) H := hP
      have hD : va_D A (wMo K hMo o4.2) := hD
      refine lv_i2l (v := o4.1.toInt64) hx hb dX11_mean_26 rfl ?_
      have e9 := Option.some.inj hf
      rw [hQ]
      exact W.lret (v := o4.1.toInt64) hx hb hr (fun t ht hW => ⟨⟨o4.1.toInt64, o4.2, rfl, ⟨pr1 e9, pr2 e9⟩, ⟨by rw [ht]; exact hP, va_K.moved hW.alike hK, hD⟩⟩, hS.F ht⟩) hS.2.2 dX11_mean_27
    · have hf := it_f hf c3
      refine lv_aload_n hx hb dX11_mean_12 rfl (lv_at hl 0 rfl) ?_
      refine lv_iload_n hx hb dX11_mean_13 rfl (lv_at hl 1 rfl) ?_
      refine lv_iload_n hx hb dX11_mean_14 rfl (lv_at hl 2 rfl) ?_
      obtain ⟨o5, go5, hf⟩ := bd_s hf
      refine rs_Vl (As := [.int p1, .int p2]) (rest := []) ⟨hx, hb, hml, hown, hts⟩ (c_X11_meanOf l D K F hMo H.size o1 p1 p2 o5 go5) (cwV 2 hts (gcV_X11_meanOf (mB44 _ (List.mem_of_getElem? (i := 15) rfl))) rfl rfl rfl hdV_X11_meanOf ⟨Nat.le_of_ble_eq_true rfl, Nat.le_of_ble_eq_true rfl⟩) hK hP hD hS hA (va_recv hK hP (ci := 10) (q0 := 0) rfl o_Mo) rfl hl.1 rfl (Nat.le_of_ble_eq_true rfl) dX11_mean_15 ⟨Nat.zero_le _, Nat.zero_le _⟩ (fun H locs hP hD hS => ?_)
      have hP : va_P D vwCl (wMo K hMo o5.2) H := hP
      have hD : va_D A (wMo K hMo o5.2) := hD
      refine lv_goto (tgt := 27) hx hb dX11_mean_18 (by decide) ?_
      have e9 := Option.some.inj hf
      rw [hQ]
      exact W.lret (v := o5.1) hx hb hr (fun t ht hW => ⟨⟨o5.1, o5.2, rfl, ⟨pr1 e9, pr2 e9⟩, ⟨by rw [ht]; exact hP, va_K.moved hW.alike hK, hD⟩⟩, hS.F ht⟩) hS.2.2 dX11_mean_27
  rw [hHe] at hgo
  exact hgo

def wz_X11_bestRule : List Cond := .code yX11_bestRule cX11_bestRule 5 (some .int) :: wsL_law
abbrev r_X11_bestRule : Room := { frames := 8, cells := 0, slots := 0, locals := 202 }
set_option maxHeartbeats 4000000 in
set_option maxRecDepth 100000 in
theorem c_X11_bestRule (l : Launch) (D : va_G) (K : Nat → ClassId) (F : Nat) (hMo : Nat → Nat) (sz : Nat) (sMo : MS) (res : Int32 × MS) (hf : f_X11_bestRule F sMo = some res) : Met l yX11_bestRule wz_X11_bestRule r_X11_bestRule (va_Pc [.ref (hMo 99)] (PW D K (wMo K hMo sMo) sz)) (va_Qi (fun r u => r = res.1 ∧ u = res.2) (fun u t => BW D K (va_A (wMo K hMo sMo) sz) (wMo K hMo u) t) (va_A (wMo K hMo sMo) sz)) 0 0 (va_A (wMo K hMo sMo) sz) := by
  refine Met.ofW (cc := cX11_bestRule) (maxL := 5) (ret := (some .int)) (by decide) rfl ?_
  intro p e s m args below meth c s₁ B hml hv
  obtain ⟨hargs, hsz, hP, hK, hD0⟩ := hv
  have hx := B.exec
  have hb := B.bytes
  have hr := B.returns
  have hts := atoms_spec (ws := wz_X11_bestRule) B.pre
  have htl : ∀ w ∈ wsL_law, w.before args s = true := fun w h => hts w (List.mem_cons_of_mem _ h)
  have hown : s.vm.findClass RX11 = some m.cls := findClass_of_methodNamed B.named
  have hlocks := B.notSynchronized
  subst hsz
  have hD := hD0.self (sz := s.heap.size)
  generalize hAe : va_A (wMo K hMo sMo) s.heap.size = A at hD ⊢
  have hA : ∀ q : Nat, s.heap.size ≤ q → A q := fun q h => by rw [← hAe]; exact Or.inr h
  have hS : va_S A s.heap s.heap [] := va_S.rf
  have iX11 : ∀ w ∈ wsX110, w ∈ wz_X11_bestRule := fun w h => List.mem_cons_of_mem _ (inlX11 w h)
  suffices hgo : ∀ Q : State → Prop, Q = MQ below (va_Qi (fun r u => r = res.1 ∧ u = res.2) (fun u t => BW D K A (wMo K hMo u) t) A) args s 0 0 A → W p l e (headSpec wz_X11_bestRule r_X11_bestRule).room s m args below meth c s.heap [] 0 0 Q (entryFrame m args 5) from hgo _ rfl
  intro Q hQ
  have w78 : ∀ (k26 : Int32 → Int64 → Int32 → MS → Option (Int32 × MS)), (∀ (x1 : Int32), ∀ (x2 : Int64), ∀ (x4 : Int32), ∀ (sMo : MS), ∀ (H : Heap) (locs : List Loc) (ls : Array Slot), k26 x1 x2 x4 sMo = some res → va_P D vwCl (wMo K hMo sMo) H → va_D A (wMo K hMo sMo) → va_S A s.heap H locs → lv_has ls 5 [(0, .ref (hMo 99)), (1, .int x1), (2, .long x2), (4, .int x4)] → W p l e (headSpec wz_X11_bestRule r_X11_bestRule).room s m args below meth c H locs 0 0 Q (F0 m 26 ls [])) → ∀ (x1 : Int32), ∀ (x2 : Int64), ∀ (x4 : Int32), ∀ (sMo : MS), ∀ (H : Heap) (locs : List Loc) (ls : Array Slot), f_X11_bestRule_78 F k26 x1 x2 x4 sMo = some res → va_P D vwCl (wMo K hMo sMo) H → va_D A (wMo K hMo sMo) → va_S A s.heap H locs → lv_has ls 5 [(0, .ref (hMo 99)), (1, .int x1), (2, .long x2), (4, .int x4)] → W p l e (headSpec wz_X11_bestRule r_X11_bestRule).room s m args below meth c H locs 0 0 Q (F0 m 78 ls []) := by
    intro k26 hk26 x1 x2 x4 sMo H locs ls hf hP hD hS hl
    unfold f_X11_bestRule_78 at hf
    obtain ⟨v15, ev15⟩ : ∃ z : Int32, z = x4 + (1 : Int32) := ⟨_, rfl⟩
    have hf := lz_s hf v15 ev15
    refine lv_iinc (v := v15) (lv' := [(4, .int v15), (0, .ref (hMo 99)), (1, .int x1), (2, .long x2)]) hx hb dX11_bestRule_78 hl (k := 3) rfl (by rw [ev15]; rfl) (by decide) rfl (fun ls hl => ?_)
    refine lv_goto (tgt := 26) hx hb dX11_bestRule_81 (by decide) ?_
    exact hk26 x1 x2 v15 sMo H locs ls hf hP hD hS (lv_sub hl [1, 2, 3, 0] rfl)
  have w63 : ∀ (k26 : Int32 → Int64 → Int32 → MS → Option (Int32 × MS)), (∀ (x1 : Int32), ∀ (x2 : Int64), ∀ (x4 : Int32), ∀ (sMo : MS), ∀ (H : Heap) (locs : List Loc) (ls : Array Slot), k26 x1 x2 x4 sMo = some res → va_P D vwCl (wMo K hMo sMo) H → va_D A (wMo K hMo sMo) → va_S A s.heap H locs → lv_has ls 5 [(0, .ref (hMo 99)), (1, .int x1), (2, .long x2), (4, .int x4)] → W p l e (headSpec wz_X11_bestRule r_X11_bestRule).room s m args below meth c H locs 0 0 Q (F0 m 26 ls [])) → ∀ (x4 : Int32), ∀ (sMo : MS), ∀ (H : Heap) (locs : List Loc) (ls : Array Slot), f_X11_bestRule_63 F k26 x4 sMo = some res → va_P D vwCl (wMo K hMo sMo) H → va_D A (wMo K hMo sMo) → va_S A s.heap H locs → lv_has ls 5 [(0, .ref (hMo 99)), (4, .int x4)] → W p l e (headSpec wz_X11_bestRule r_X11_bestRule).room s m args below meth c H locs 0 0 Q (F0 m 63 ls []) := by
    intro k26 hk26 x4 sMo H locs ls hf hP hD hS hl
    unfold f_X11_bestRule_63 at hf
    refine lv_iload hx hb dX11_bestRule_63 (lv_at hl 1 rfl) ?_
    refine lv_istore_n (lv' := [(1, .int x4), (0, .ref (hMo 99)), (4, .int x4)]) hx hb dX11_bestRule_65 rfl hl (by decide) rfl (fun ls hl => ?_)
    refine lv_aload_n hx hb dX11_bestRule_66 rfl (lv_at hl 1 rfl) ?_
    refine va_get (D := D) (ci := 10) (v := .ref (hMo 27)) (C := RX11) (T := TX11) (N := 41) hx hb hts iX11 hown hK hP 0 o_Mo rfl 27 (by decide) (htl _ (mB6 _ (List.mem_of_getElem? (i := 12) rfl))) (fun _ h9 => h9) rfl dX11_bestRule_67 ?_
    refine lv_aload_n hx hb dX11_bestRule_70 rfl (lv_at hl 1 rfl) ?_
    refine va_get (D := D) (ci := 10) (v := .ref (hMo 15)) (C := RX11) (T := TX11) (N := 41) hx hb hts iX11 hown hK hP 0 o_Mo rfl 15 (by decide) (htl _ (mB6 _ (List.mem_of_getElem? (i := 3) rfl))) (fun _ h9 => h9) rfl dX11_bestRule_71 ?_
    refine lv_iconst (v := (1 : Int32)) hx hb dX11_bestRule_74 (by decide) ?_
    obtain ⟨g11, hf⟩ := gd_s hf
    refine va_iald hx hb hK hP 3 0 (f := sMo.2.2.1 15) a_Mo_15 rfl (vpb_in g11) dX11_bestRule_75 ?_
    refine lv_topi (fun v12 ev12 => ?_)
    have hf := lz_s hf v12 ev12
    obtain ⟨g13, hf⟩ := gd_s hf
    refine va_lald hx hb hK hP 12 1 (f := sMo.2.2.2 27) a_Mo_27 rfl (vpb_in g13) dX11_bestRule_76 ?_
    refine lv_topl (fun v14 ev14 => ?_)
    have hf := lz_s hf v14 ev14
    refine lv_lstore_n (lv' := [(2, .long v14), (1, .int x4), (0, .ref (hMo 99)), (4, .int x4)]) hx hb dX11_bestRule_77 rfl hl (by decide) rfl (fun ls hl => ?_)
    exact w78 k26 hk26 x4 v14 x4 sMo H locs ls hf hP hD hS (lv_sub hl [2, 1, 0, 3] rfl)
  have w26 : ∀ (n : Nat), ∀ (x1 : Int32), ∀ (x2 : Int64), ∀ (x4 : Int32), ∀ (sMo : MS), ∀ (H : Heap) (locs : List Loc) (ls : Array Slot), f_X11_bestRule_26 F n x1 x2 x4 sMo = some res → va_P D vwCl (wMo K hMo sMo) H → va_D A (wMo K hMo sMo) → va_S A s.heap H locs → lv_has ls 5 [(0, .ref (hMo 99)), (1, .int x1), (2, .long x2), (4, .int x4)] → W p l e (headSpec wz_X11_bestRule r_X11_bestRule).room s m args below meth c H locs 0 0 Q (F0 m 26 ls []) := by
    intro n
    induction n with
    | zero =>
      intro x1 x2 x4 sMo H locs ls hf
      exact absurd (show none = some res from hf) (fun h => nomatch h)
    | succ n ih =>
      intro x1 x2 x4 sMo H locs ls hf hP hD hS hl
      rw [f_X11_bestRule_26] at hf
      refine lv_iload hx hb dX11_bestRule_26 (lv_at hl 3 rfl) ?_
      refine lv_iconst (v := (4 : Int32)) hx hb dX11_bestRule_28 (by decide) ?_
      refine lv_icmp_ge (tgt := 84) hx hb dX11_bestRule_29 (by decide) (fun c4 => ?_) (fun c4 => ?_)
      · have hf := it_t hf c4
        refine lv_iload_n hx hb dX11_bestRule_84 rfl (lv_at hl 1 rfl) ?_
        have e9 := Option.some.inj hf
        rw [hQ]
        exact W.iret (v := x1) hx hb hr (fun t ht hW => ⟨⟨x1, sMo, rfl, ⟨pr1 e9, pr2 e9⟩, ⟨by rw [ht]; exact hP, va_K.moved hW.alike hK, hD⟩⟩, hS.F ht⟩) hS.2.2 dX11_bestRule_85
      · have hf := it_f hf c4
        refine lv_aload_n hx hb dX11_bestRule_32 rfl (lv_at hl 0 rfl) ?_
        refine lv_iload hx hb dX11_bestRule_33 (lv_at hl 3 rfl) ?_
        obtain ⟨o5, go5, hf⟩ := bd_s hf
        refine rs_Vv (As := [.int x4]) (rest := []) ⟨hx, hb, hml, hown, hts⟩ (c_X11_layMeans l D K F hMo H.size sMo x4 o5 go5) (cwV 1 hts (gcV_X11_layMeans (mB44 _ (List.mem_of_getElem? (i := 19) rfl))) rfl rfl rfl hdV_X11_layMeans ⟨Nat.le_of_ble_eq_true rfl, Nat.le_of_ble_eq_true rfl⟩) hK hP hD hS hA (va_recv hK hP (ci := 10) (q0 := 0) rfl o_Mo) rfl hl.1 rfl (Nat.le_of_ble_eq_true rfl) dX11_bestRule_35 ⟨Nat.zero_le _, Nat.zero_le _⟩ (fun H locs hP hD hS => ?_)
        have hP : va_P D vwCl (wMo K hMo o5) H := hP
        have hD : va_D A (wMo K hMo o5) := hD
        refine lv_lload_n hx hb dX11_bestRule_38 rfl (lv_at hl 2 rfl) ?_
        refine lv_lconst (v := (0 : Int64)) hx hb dX11_bestRule_39 (by decide) ?_
        refine W.lcmp hx hb dX11_bestRule_40 ?_
        refine lv_if_lt (tgt := 63) hx hb dX11_bestRule_41 (by decide) (fun c6 => ?_) (fun c6 => ?_)
        · have hf := it_t hf c6
          exact w63 (f_X11_bestRule_26 F n) ih x4 o5 H locs ls hf hP hD hS (lv_sub hl [0, 3] rfl)
        · have hf := it_f hf c6
          refine lv_aload_n hx hb dX11_bestRule_44 rfl (lv_at hl 0 rfl) ?_
          refine va_get (D := D) (ci := 10) (v := .ref (hMo 27)) (C := RX11) (T := TX11) (N := 41) hx hb hts iX11 hown hK hP 0 o_Mo rfl 27 (by decide) (htl _ (mB6 _ (List.mem_of_getElem? (i := 12) rfl))) (fun _ h9 => h9) rfl dX11_bestRule_45 ?_
          refine lv_aload_n hx hb dX11_bestRule_48 rfl (lv_at hl 0 rfl) ?_
          refine va_get (D := D) (ci := 10) (v := .ref (hMo 15)) (C := RX11) (T := TX11) (N := 41) hx hb hts iX11 hown hK hP 0 o_Mo rfl 15 (by decide) (htl _ (mB6 _ (List.mem_of_getElem? (i := 3) rfl))) (fun _ h9 => h9) rfl dX11_bestRule_49 ?_
          refine lv_iconst (v := (1 : Int32)) hx hb dX11_bestRule_52 (by decide) ?_
          obtain ⟨g7, hf⟩ := gd_s hf
          refine va_iald hx hb hK hP 3 0 (f := o5.2.2.1 15) a_Mo_15 rfl (vpb_in g7) dX11_bestRule_53 ?_
          refine lv_topi (fun v8 ev8 => ?_)
          have hf := lz_s hf v8 ev8
          obtain ⟨g9, hf⟩ := gd_s hf
          refine va_lald hx hb hK hP 12 1 (f := o5.2.2.2 27) a_Mo_27 rfl (vpb_in g9) dX11_bestRule_54 ?_
          refine lv_lload_n hx hb dX11_bestRule_55 rfl (lv_at hl 2 rfl) ?_
          refine W.lcmp hx hb dX11_bestRule_56 ?_
          refine lv_if_lt (tgt := 63) hx hb dX11_bestRule_57 (by decide) (fun c10 => ?_) (fun c10 => ?_)
          · have hf := it_t hf c10
            exact w63 (f_X11_bestRule_26 F n) ih x4 o5 H locs ls hf hP hD hS (lv_sub hl [0, 3] rfl)
          · have hf := it_f hf c10
            refine lv_goto (tgt := 78) hx hb dX11_bestRule_60 (by decide) ?_
            exact w78 (f_X11_bestRule_26 F n) ih x1 x2 x4 o5 H locs ls hf hP hD hS (lv_sub hl [0, 1, 2, 3] rfl)
  have hen : entryFrame m args 5 = entryFrame m (([.ref (hMo 99)] : List Value).toArray) 5 := by rw [hargs]
  have hl := lv_entry ([.ref (hMo 99)]) (n := 5) (Nat.le_of_ble_eq_true rfl)
  rw [hen, lg_entry_eq]
  generalize (lg_sl ([.ref (hMo 99)]) ++ List.replicate (5 - (lg_sl ([.ref (hMo 99)])).length) Slot.unset).toArray = ls at hl ⊢
  have hl : lv_has ls 5 [(0, .ref (hMo 99))] := hl
  unfold f_X11_bestRule at hf
  obtain ⟨H, hHe⟩ : ∃ z, z = s.heap := ⟨_, rfl⟩
  obtain ⟨locs, hLe⟩ : ∃ z : List Loc, z = [] := ⟨_, rfl⟩
  rw [← hLe]
  have hS : va_S A s.heap H locs := by rw [hHe, hLe]; exact hS
  have hP : va_P D vwCl (wMo K hMo sMo) H := by rw [hHe]; exact hP
  have hgo : W p l e (headSpec wz_X11_bestRule r_X11_bestRule).room s m args below meth c H locs 0 0 Q (F0 m 0 ls []) := by
    refine lv_aload_n hx hb dX11_bestRule_0 rfl (lv_at hl 0 rfl) ?_
    obtain ⟨o1, go1, hf⟩ := bd_s hf
    refine rs_Vv (As := []) (rest := []) ⟨hx, hb, hml, hown, hts⟩ (c_X11_good l D K F hMo H.size sMo o1 go1) (cwV 0 hts (gcV_X11_good (mB18 _ (List.mem_of_getElem? (i := 7) rfl))) rfl rfl rfl hdV_X11_good ⟨Nat.le_of_ble_eq_true rfl, Nat.le_of_ble_eq_true rfl⟩) hK hP hD hS hA (va_recv hK hP (ci := 10) (q0 := 0) rfl o_Mo) rfl hl.1 rfl (Nat.le_of_ble_eq_true rfl) dX11_bestRule_1 ⟨Nat.zero_le _, Nat.zero_le _⟩ (fun H locs hP hD hS => ?_)
    have hP : va_P D vwCl (wMo K hMo o1) H := hP
    have hD : va_D A (wMo K hMo o1) := hD
    refine lv_aload_n hx hb dX11_bestRule_4 rfl (lv_at hl 0 rfl) ?_
    refine va_get (D := D) (ci := 10) (v := .int (o1.1 14)) (C := RX11) (T := TX11) (N := 41) hx hb hts iX11 hown hK hP 0 o_Mo rfl 14 (by decide) (htl _ (mB18 _ (List.mem_of_getElem? (i := 4) rfl))) (fun _ h9 => h9) rfl dX11_bestRule_5 ?_
    refine lv_if_ne (tgt := 17) hx hb dX11_bestRule_8 (by decide) (fun c2 => ?_) (fun c2 => ?_)
    · have hf := it_f hf c2
      refine lv_iconst (v := (0 : Int32)) hx hb dX11_bestRule_17 (by decide) ?_
      refine lv_istore_n (lv' := [(1, .int (0 : Int32)), (0, .ref (hMo 99))]) hx hb dX11_bestRule_18 rfl hl (by decide) rfl (fun ls hl => ?_)
      refine lv_ldc2 (v := (-1 : Int64)) hx hb hown (htl _ (mB47 _ (List.mem_of_getElem? (i := 7) rfl))) dX11_bestRule_19 ?_
      refine lv_lstore_n (lv' := [(2, .long (-1 : Int64)), (1, .int (0 : Int32)), (0, .ref (hMo 99))]) hx hb dX11_bestRule_22 rfl hl (by decide) rfl (fun ls hl => ?_)
      refine lv_iconst (v := (0 : Int32)) hx hb dX11_bestRule_23 (by decide) ?_
      refine lv_istore (lv' := [(4, .int (0 : Int32)), (2, .long (-1 : Int64)), (1, .int (0 : Int32)), (0, .ref (hMo 99))]) hx hb dX11_bestRule_24 hl (by decide) rfl (fun ls hl => ?_)
      exact w26 F (0 : Int32) (-1 : Int64) (0 : Int32) o1 H locs ls hf hP hD hS (lv_sub hl [3, 2, 1, 0] rfl)
    · have hf := it_t hf c2
      refine lv_aload_n hx hb dX11_bestRule_11 rfl (lv_at hl 0 rfl) ?_
      refine lv_iconst (v := (1 : Int32)) hx hb dX11_bestRule_12 (by decide) ?_
      obtain ⟨o3, go3, hf⟩ := bd_s hf
      refine rs_Vi (As := [.int (1 : Int32)]) (rest := []) ⟨hx, hb, hml, hown, hts⟩ (c_X11_no l D K F hMo H.size o1 (1 : Int32) o3 go3) (cwV 1 hts (gcV_X11_no (mB18 _ (List.mem_of_getElem? (i := 15) rfl))) rfl rfl rfl hdV_X11_no ⟨Nat.le_of_ble_eq_true rfl, Nat.le_of_ble_eq_true rfl⟩) hK hP hD hS hA (va_recv hK hP (ci := 10) (q0 := 0) rfl o_Mo) rfl hl.1 rfl (Nat.le_of_ble_eq_true rfl) dX11_bestRule_13 ⟨Nat.zero_le _, Nat.zero_le _⟩ (fun H locs hP hD hS => ?_)
      have hP : va_P D vwCl (wMo K hMo o3.2) H := hP
      have hD : va_D A (wMo K hMo o3.2) := hD
      have e9 := Option.some.inj hf
      rw [hQ]
      exact W.iret (v := o3.1) hx hb hr (fun t ht hW => ⟨⟨o3.1, o3.2, rfl, ⟨pr1 e9, pr2 e9⟩, ⟨by rw [ht]; exact hP, va_K.moved hW.alike hK, hD⟩⟩, hS.F ht⟩) hS.2.2 dX11_bestRule_16
  rw [hHe] at hgo
  exact hgo
