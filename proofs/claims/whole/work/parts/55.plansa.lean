def wz_X6_forget : List Cond := .code yX6_forget cX6_forget 1 none :: wsL_law
abbrev r_X6_forget : Room := { frames := 1, cells := 0, slots := 0, locals := 23 }
set_option maxHeartbeats 4000000 in
set_option maxRecDepth 100000 in
theorem c_X6_forget (l : Launch) (D : va_G) (K : Nat → ClassId) (F : Nat) (hPl : Nat → Nat) (gPl2 : Nat → Nat) (gPl3 : Nat → Nat) (sz : Nat) (sPl : MS) (res : MS) (hf : f_X6_forget F sPl = some res) : Met l yX6_forget wz_X6_forget r_X6_forget (va_Pc [.ref (hPl 99)] (PW D K (wPl K hPl gPl2 gPl3 sPl) sz)) (va_Qv (fun u => u = res) (fun u t => BW D K (va_A (wPl K hPl gPl2 gPl3 sPl) sz) (wPl K hPl gPl2 gPl3 u) t) (va_A (wPl K hPl gPl2 gPl3 sPl) sz)) 0 0 (va_A (wPl K hPl gPl2 gPl3 sPl) sz) := by
  refine Met.ofW (cc := cX6_forget) (maxL := 1) (ret := none) (by decide) rfl ?_
  intro p e s m args below meth c s₁ B hml hv
  obtain ⟨hargs, hsz, hP, hK, hD0⟩ := hv
  have hx := B.exec
  have hb := B.bytes
  have hr := B.returns
  have hts := atoms_spec (ws := wz_X6_forget) B.pre
  have htl : ∀ w ∈ wsL_law, w.before args s = true := fun w h => hts w (List.mem_cons_of_mem _ h)
  have hown : s.vm.findClass RX6 = some m.cls := findClass_of_methodNamed B.named
  have hlocks := B.notSynchronized
  subst hsz
  have hD := hD0.self (sz := s.heap.size)
  generalize hAe : va_A (wPl K hPl gPl2 gPl3 sPl) s.heap.size = A at hD ⊢
  have hA : ∀ q : Nat, s.heap.size ≤ q → A q := fun q h => by rw [← hAe]; exact Or.inr h
  have hS : va_S A s.heap s.heap [] := va_S.rf
  have iX6 : ∀ w ∈ wsX60, w ∈ wz_X6_forget := fun w h => List.mem_cons_of_mem _ (inlX6 w h)
  suffices hgo : ∀ Q : State → Prop, Q = MQ below (va_Qv (fun u => u = res) (fun u t => BW D K A (wPl K hPl gPl2 gPl3 u) t) A) args s 0 0 A → W p l e (headSpec wz_X6_forget r_X6_forget).room s m args below meth c s.heap [] 0 0 Q (entryFrame m args 1) from hgo _ rfl
  intro Q hQ
  have hen : entryFrame m args 1 = entryFrame m (([.ref (hPl 99)] : List Value).toArray) 1 := by rw [hargs]
  have hl := lv_entry ([.ref (hPl 99)]) (n := 1) (Nat.le_of_ble_eq_true rfl)
  rw [hen, lg_entry_eq]
  generalize (lg_sl ([.ref (hPl 99)]) ++ List.replicate (1 - (lg_sl ([.ref (hPl 99)])).length) Slot.unset).toArray = ls at hl ⊢
  have hl : lv_has ls 1 [(0, .ref (hPl 99))] := hl
  unfold f_X6_forget at hf
  obtain ⟨H, hHe⟩ : ∃ z, z = s.heap := ⟨_, rfl⟩
  obtain ⟨locs, hLe⟩ : ∃ z : List Loc, z = [] := ⟨_, rfl⟩
  rw [← hLe]
  have hS : va_S A s.heap H locs := by rw [hHe, hLe]; exact hS
  have hP : va_P D vwCl (wPl K hPl gPl2 gPl3 sPl) H := by rw [hHe]; exact hP
  have hgo : W p l e (headSpec wz_X6_forget r_X6_forget).room s m args below meth c H locs 0 0 Q (F0 m 0 ls []) := by
    refine lv_aload_n hx hb dX6_forget_0 rfl (lv_at hl 0 rfl) ?_
    refine va_get (D := D) (ci := 5) (v := .ref (hPl 0)) (C := RX6) (T := TX6) (N := 4) hx hb hts iX6 hown hK hP 0 o_Pl rfl 0 (by decide) (htl _ (mB4 _ (List.mem_of_getElem? (i := 0) rfl))) (fun _ h9 => h9) rfl dX6_forget_1 ?_
    refine lv_iconst (v := (0 : Int32)) hx hb dX6_forget_4 (by decide) ?_
    obtain ⟨o1, go1, hf⟩ := bd_s hf
    refine rw_Sv (wn := wPl K hPl gPl2 gPl3 (wA sPl 0 o1)) (As := [.ref (hPl 0), .int (0 : Int32)]) (rest := []) ⟨hx, hb, hml, hown, hts⟩ (c_J7_fill_53178 l D K F (hPl 0) 9 H.size (sPl.2.2.1 0) (0 : Int32) o1 go1) (va_cwS 2 hts (gcS_J7_fill_53178 (mB16 _ (List.mem_of_getElem? (i := 7) rfl))) rfl rfl rfl hdS_J7_fill_53178 ⟨Nat.le_of_ble_eq_true rfl, Nat.le_of_ble_eq_true rfl⟩) hK hP hD hS hA [1] [0, 2, 3, 4] [0, 4, 1, 2, 3] rfl rfl (by decide +kernel) (by decide +kernel) (by decide +kernel) rfl (by decide +kernel) rfl hl.1 rfl (Nat.le_of_ble_eq_true rfl) dX6_forget_5 ⟨Nat.zero_le _, Nat.zero_le _⟩ (fun H locs hP hD hS => ?_)
    have hP : va_P D vwCl (wPl K hPl gPl2 gPl3 (wA sPl 0 o1)) H := hP
    have hD : va_D A (wPl K hPl gPl2 gPl3 (wA sPl 0 o1)) := hD
    obtain ⟨s2, es2⟩ : ∃ z, z = (wA sPl 0 o1) := ⟨_, rfl⟩
    have hP : va_P D vwCl (wPl K hPl gPl2 gPl3 s2) H := by rw [es2]; exact hP
    have hD : va_D A (wPl K hPl gPl2 gPl3 s2) := by rw [es2]; exact hD
    have hf := lz_s hf s2 es2
    have e9 := Option.some.inj hf
    rw [hQ]
    exact W.vret hx hb hr (fun t ht hW => ⟨⟨s2, rfl, e9, ⟨by rw [ht]; exact hP, va_K.moved hW.alike hK, hD⟩⟩, hS.F ht⟩) hS.2.2 dX6_forget_8
  rw [hHe] at hgo
  exact hgo

def wz_X6_failsAt : List Cond := .code yX6_failsAt cX6_failsAt 4 (some .int) :: wsL_law
abbrev r_X6_failsAt : Room := { frames := 1, cells := 0, slots := 0, locals := 21 }
set_option maxHeartbeats 4000000 in
set_option maxRecDepth 100000 in
theorem c_X6_failsAt (l : Launch) (D : va_G) (K : Nat → ClassId) (F : Nat) (hPl : Nat → Nat) (gPl2 : Nat → Nat) (gPl3 : Nat → Nat) (hRo : Nat → Nat) (sPl : MS) (sRo : MS) (res : Int32) (hf : f_X6_failsAt F sPl sRo = some res) : Met l yX6_failsAt wz_X6_failsAt r_X6_failsAt (va_Pc [.ref (hPl 99), .ref (hRo 99)] (PR D K (wPl K hPl gPl2 gPl3 sPl ++ wRo K hRo sRo))) (va_Qi (fun r (_ : Unit) => r = res) BN nOne) 0 0 nOne := by
  refine Met.ofW (cc := cX6_failsAt) (maxL := 4) (ret := (some .int)) (by decide) rfl ?_
  intro p e s m args below meth c s₁ B hml hv
  obtain ⟨hargs, hP, hK⟩ := hv
  have hx := B.exec
  have hb := B.bytes
  have hr := B.returns
  have hts := atoms_spec (ws := wz_X6_failsAt) B.pre
  have htl : ∀ w ∈ wsL_law, w.before args s = true := fun w h => hts w (List.mem_cons_of_mem _ h)
  have hown : s.vm.findClass RX6 = some m.cls := findClass_of_methodNamed B.named
  have hlocks := B.notSynchronized
  have hS : va_S nOne s.heap s.heap [] := va_S.rf
  have iX6 : ∀ w ∈ wsX60, w ∈ wz_X6_failsAt := fun w h => List.mem_cons_of_mem _ (inlX6 w h)
  have iX9 : ∀ w ∈ wsX90, w ∈ wz_X6_failsAt := fun w h => List.mem_cons_of_mem _ (inlX9 w h)
  suffices hgo : ∀ Q : State → Prop, Q = MQ below (va_Qi (fun r (_ : Unit) => r = res) BN nOne) args s 0 0 nOne → W p l e (headSpec wz_X6_failsAt r_X6_failsAt).room s m args below meth c s.heap [] 0 0 Q (entryFrame m args 4) from hgo _ rfl
  intro Q hQ
  have w43 : ∀ (k7 : Int32 → Int32 → Option Int32), (∀ (x2 : Int32), ∀ (x3 : Int32), ∀ (H : Heap) (locs : List Loc) (ls : Array Slot), k7 x2 x3 = some res → va_P D vwCl (wPl K hPl gPl2 gPl3 sPl ++ wRo K hRo sRo) H → va_S nOne s.heap H locs → lv_has ls 4 [(0, .ref (hPl 99)), (1, .ref (hRo 99)), (2, .int x2), (3, .int x3)] → W p l e (headSpec wz_X6_failsAt r_X6_failsAt).room s m args below meth c H locs 0 0 Q (F0 m 7 ls [])) → ∀ (x2 : Int32), ∀ (x3 : Int32), ∀ (H : Heap) (locs : List Loc) (ls : Array Slot), f_X6_failsAt_43 F sPl sRo k7 x2 x3 = some res → va_P D vwCl (wPl K hPl gPl2 gPl3 sPl ++ wRo K hRo sRo) H → va_S nOne s.heap H locs → lv_has ls 4 [(0, .ref (hPl 99)), (1, .ref (hRo 99)), (2, .int x2), (3, .int x3)] → W p l e (headSpec wz_X6_failsAt r_X6_failsAt).room s m args below meth c H locs 0 0 Q (F0 m 43 ls []) := by
    intro k7 hk7 x2 x3 H locs ls hf hP hS hl
    unfold f_X6_failsAt_43 at hf
    refine lv_iload_n hx hb dX6_failsAt_43 rfl (lv_at hl 2 rfl) ?_
    refine lv_aload_n hx hb dX6_failsAt_44 rfl (lv_at hl 1 rfl) ?_
    refine va_get (D := D) (ci := 8) (v := .int (sRo.1 0)) (C := RX9) (T := TX9) (N := 19) hx hb hts iX9 hown hK hP (5 + 0) (rwr ln_Pl o_Ro) rfl 0 (by decide) (htl _ (mB30 _ (List.mem_of_getElem? (i := 7) rfl))) (fun _ h9 => h9) rfl dX6_failsAt_45 ?_
    refine lv_icmp_gt (tgt := 60) hx hb dX6_failsAt_48 (by decide) (fun c8 => ?_) (fun c8 => ?_)
    · have hf := it_t hf c8
      refine lv_iload_n hx hb dX6_failsAt_60 rfl (lv_at hl 3 rfl) ?_
      have e9 := Option.some.inj hf
      rw [hQ]
      exact W.iret (v := x3) hx hb hr (fun t ht hW => ⟨⟨x3, (), rfl, e9, trivial⟩, hS.F ht⟩) hS.2.2 dX6_failsAt_61
    · have hf := it_f hf c8
      refine lv_iload_n hx hb dX6_failsAt_51 rfl (lv_at hl 2 rfl) ?_
      refine lv_aload_n hx hb dX6_failsAt_52 rfl (lv_at hl 1 rfl) ?_
      refine lv_iload_n hx hb dX6_failsAt_53 rfl (lv_at hl 3 rfl) ?_
      obtain ⟨o9, go9, hf⟩ := bd_s hf
      refine ro_Vi (As := [.int x3]) (rest := [.int x2]) ⟨hx, hb, hml, hown, hts⟩ (c_X9_legPints l D K F hRo sRo x3 o9 go9) (cwV 1 hts (gcV_X9_legPints (mB30 _ (List.mem_of_getElem? (i := 12) rfl))) rfl rfl rfl hdV_X9_legPints ⟨Nat.le_of_ble_eq_true rfl, Nat.le_of_ble_eq_true rfl⟩) hK hP hS (va_PL (cs := [wPl K hPl gPl2 gPl3 sPl, wRo K hRo sRo]) (cc := [wRo K hRo sRo]) hP (fl2 _ _) [1] rfl (fl1 _)) (va_recv hK hP (ci := 8) (q0 := (5 + 0)) rfl (rwr ln_Pl o_Ro)) rfl hl.1 rfl (Nat.le_of_ble_eq_true rfl) dX6_failsAt_54 ⟨Nat.zero_le _, Nat.zero_le _⟩ (fun H locs hP hS => ?_)
      refine lv_icmp_ge (tgt := 62) hx hb dX6_failsAt_57 (by decide) (fun c10 => ?_) (fun c10 => ?_)
      · have hf := it_t hf c10
        refine lv_iload_n hx hb dX6_failsAt_62 rfl (lv_at hl 2 rfl) ?_
        refine lv_aload_n hx hb dX6_failsAt_63 rfl (lv_at hl 1 rfl) ?_
        refine lv_iload_n hx hb dX6_failsAt_64 rfl (lv_at hl 3 rfl) ?_
        obtain ⟨o11, go11, hf⟩ := bd_s hf
        refine ro_Vi (As := [.int x3]) (rest := [.int x2]) ⟨hx, hb, hml, hown, hts⟩ (c_X9_legPints l D K F hRo sRo x3 o11 go11) (cwV 1 hts (gcV_X9_legPints (mB30 _ (List.mem_of_getElem? (i := 12) rfl))) rfl rfl rfl hdV_X9_legPints ⟨Nat.le_of_ble_eq_true rfl, Nat.le_of_ble_eq_true rfl⟩) hK hP hS (va_PL (cs := [wPl K hPl gPl2 gPl3 sPl, wRo K hRo sRo]) (cc := [wRo K hRo sRo]) hP (fl2 _ _) [1] rfl (fl1 _)) (va_recv hK hP (ci := 8) (q0 := (5 + 0)) rfl (rwr ln_Pl o_Ro)) rfl hl.1 rfl (Nat.le_of_ble_eq_true rfl) dX6_failsAt_65 ⟨Nat.zero_le _, Nat.zero_le _⟩ (fun H locs hP hS => ?_)
        refine lv_isub hx hb dX6_failsAt_68 ?_
        refine lv_istore_n (lv' := [(2, .int (x2 - o11)), (0, .ref (hPl 99)), (1, .ref (hRo 99)), (3, .int x3)]) hx hb dX6_failsAt_69 rfl hl (by decide) rfl (fun ls hl => ?_)
        obtain ⟨v12, ev12⟩ : ∃ z : Int32, z = x3 + (1 : Int32) := ⟨_, rfl⟩
        have hf := lz_s hf v12 ev12
        refine lv_iinc (v := v12) (lv' := [(3, .int v12), (2, .int (x2 - o11)), (0, .ref (hPl 99)), (1, .ref (hRo 99))]) hx hb dX6_failsAt_70 hl (k := 3) rfl (by rw [ev12]; rfl) (by decide) rfl (fun ls hl => ?_)
        refine lv_goto (tgt := 7) hx hb dX6_failsAt_73 (by decide) ?_
        exact hk7 (x2 - o11) v12 H locs ls hf hP hS (lv_sub hl [2, 3, 1, 0] rfl)
      · have hf := it_f hf c10
        refine lv_iload_n hx hb dX6_failsAt_60 rfl (lv_at hl 3 rfl) ?_
        have e9 := Option.some.inj hf
        rw [hQ]
        exact W.iret (v := x3) hx hb hr (fun t ht hW => ⟨⟨x3, (), rfl, e9, trivial⟩, hS.F ht⟩) hS.2.2 dX6_failsAt_61
  have w7 : ∀ (n : Nat), ∀ (x2 : Int32), ∀ (x3 : Int32), ∀ (H : Heap) (locs : List Loc) (ls : Array Slot), f_X6_failsAt_7 F sPl sRo n x2 x3 = some res → va_P D vwCl (wPl K hPl gPl2 gPl3 sPl ++ wRo K hRo sRo) H → va_S nOne s.heap H locs → lv_has ls 4 [(0, .ref (hPl 99)), (1, .ref (hRo 99)), (2, .int x2), (3, .int x3)] → W p l e (headSpec wz_X6_failsAt r_X6_failsAt).room s m args below meth c H locs 0 0 Q (F0 m 7 ls []) := by
    intro n
    induction n with
    | zero =>
      intro x2 x3 H locs ls hf
      exact absurd (show none = some res from hf) (fun h => nomatch h)
    | succ n ih =>
      intro x2 x3 H locs ls hf hP hS hl
      rw [f_X6_failsAt_7] at hf
      refine lv_iload_n hx hb dX6_failsAt_7 rfl (lv_at hl 3 rfl) ?_
      refine lv_aload_n hx hb dX6_failsAt_8 rfl (lv_at hl 1 rfl) ?_
      refine va_get (D := D) (ci := 8) (v := .int (sRo.1 8)) (C := RX9) (T := TX9) (N := 19) hx hb hts iX9 hown hK hP (5 + 0) (rwr ln_Pl o_Ro) rfl 8 (by decide) (htl _ (mB30 _ (List.mem_of_getElem? (i := 6) rfl))) (fun _ h9 => h9) rfl dX6_failsAt_9 ?_
      refine lv_iconst (v := (1 : Int32)) hx hb dX6_failsAt_12 (by decide) ?_
      refine lv_isub hx hb dX6_failsAt_13 ?_
      refine lv_icmp_ge (tgt := 76) hx hb dX6_failsAt_14 (by decide) (fun c1 => ?_) (fun c1 => ?_)
      · have hf := it_t hf c1
        refine lv_bipush (v := (-2 : Int32)) hx hb dX6_failsAt_76 (by decide) ?_
        have e9 := Option.some.inj hf
        rw [hQ]
        exact W.iret (v := (-2 : Int32)) hx hb hr (fun t ht hW => ⟨⟨(-2 : Int32), (), rfl, e9, trivial⟩, hS.F ht⟩) hS.2.2 dX6_failsAt_78
      · have hf := it_f hf c1
        refine lv_iload_n hx hb dX6_failsAt_17 rfl (lv_at hl 2 rfl) ?_
        refine lv_aload_n hx hb dX6_failsAt_18 rfl (lv_at hl 0 rfl) ?_
        refine va_get (D := D) (ci := 5) (v := .ref (hPl 0)) (C := RX6) (T := TX6) (N := 4) hx hb hts iX6 hown hK hP 0 (rwl o_Pl) rfl 0 (by decide) (htl _ (mB4 _ (List.mem_of_getElem? (i := 0) rfl))) (fun _ h9 => h9) rfl dX6_failsAt_19 ?_
        refine lv_iload_n hx hb dX6_failsAt_22 rfl (lv_at hl 3 rfl) ?_
        obtain ⟨g2, hf⟩ := gd_s hf
        refine va_iald hx hb hK hP 1 0 (f := sPl.2.2.1 0) (rwl a_Pl_0) rfl (vpb_in g2) dX6_failsAt_23 ?_
        refine lv_iadd hx hb dX6_failsAt_24 ?_
        refine lv_topi (fun v3 ev3 => ?_)
        have hf := lz_s hf v3 ev3
        refine lv_istore_n (lv' := [(2, .int v3), (0, .ref (hPl 99)), (1, .ref (hRo 99)), (3, .int x3)]) hx hb dX6_failsAt_25 rfl hl (by decide) rfl (fun ls hl => ?_)
        refine lv_aload_n hx hb dX6_failsAt_26 rfl (lv_at hl 1 rfl) ?_
        refine va_get (D := D) (ci := 5) (v := .ref (hPl 0)) (C := RX6) (T := TX6) (N := 4) hx hb hts iX6 hown hK hP 0 (rwl o_Pl) rfl 0 (by decide) (htl _ (mB4 _ (List.mem_of_getElem? (i := 0) rfl))) (fun _ h9 => h9) rfl dX6_failsAt_27 ?_
        refine lv_iload_n hx hb dX6_failsAt_30 rfl (lv_at hl 3 rfl) ?_
        obtain ⟨g4, hf⟩ := gd_s hf
        refine va_iald hx hb hK hP 1 0 (f := sPl.2.2.1 0) (rwl a_Pl_0) rfl (vpb_in g4) dX6_failsAt_31 ?_
        refine lv_if_le (tgt := 43) hx hb dX6_failsAt_32 (by decide) (fun c5 => ?_) (fun c5 => ?_)
        · have hf := it_t hf c5
          exact w43 (f_X6_failsAt_7 F sPl sRo n) ih v3 x3 H locs ls hf hP hS (lv_sub hl [1, 2, 0, 3] rfl)
        · have hf := it_f hf c5
          refine lv_aload_n hx hb dX6_failsAt_35 rfl (lv_at hl 2 rfl) ?_
          refine lv_iload_n hx hb dX6_failsAt_36 rfl (lv_at hl 3 rfl) ?_
          obtain ⟨o6, go6, hf⟩ := bd_s hf
          refine ro_Vi (As := [.int x3]) (rest := []) ⟨hx, hb, hml, hown, hts⟩ (c_X9_hasPumpAt l D K F hRo sRo x3 o6 go6) (cwV 1 hts (gcV_X9_hasPumpAt (mB30 _ (List.mem_of_getElem? (i := 8) rfl))) rfl rfl rfl hdV_X9_hasPumpAt ⟨Nat.le_of_ble_eq_true rfl, Nat.le_of_ble_eq_true rfl⟩) hK hP hS (va_PL (cs := [wPl K hPl gPl2 gPl3 sPl, wRo K hRo sRo]) (cc := [wRo K hRo sRo]) hP (fl2 _ _) [1] rfl (fl1 _)) (va_recv hK hP (ci := 8) (q0 := (5 + 0)) rfl (rwr ln_Pl o_Ro)) rfl hl.1 rfl (Nat.le_of_ble_eq_true rfl) dX6_failsAt_37 ⟨Nat.zero_le _, Nat.zero_le _⟩ (fun H locs hP hS => ?_)
          refine lv_if_eq (tgt := 60) hx hb dX6_failsAt_40 (by decide) (fun c7 => ?_) (fun c7 => ?_)
          · have hf := it_t hf c7
            refine lv_iload_n hx hb dX6_failsAt_60 rfl (lv_at hl 3 rfl) ?_
            have e9 := Option.some.inj hf
            rw [hQ]
            exact W.iret (v := x3) hx hb hr (fun t ht hW => ⟨⟨x3, (), rfl, e9, trivial⟩, hS.F ht⟩) hS.2.2 dX6_failsAt_61
          · have hf := it_f hf c7
            exact w43 (f_X6_failsAt_7 F sPl sRo n) ih v3 x3 H locs ls hf hP hS (lv_sub hl [1, 2, 0, 3] rfl)
  have hen : entryFrame m args 4 = entryFrame m (([.ref (hPl 99), .ref (hRo 99)] : List Value).toArray) 4 := by rw [hargs]
  have hl := lv_entry ([.ref (hPl 99), .ref (hRo 99)]) (n := 4) (Nat.le_of_ble_eq_true rfl)
  rw [hen, lg_entry_eq]
  generalize (lg_sl ([.ref (hPl 99), .ref (hRo 99)]) ++ List.replicate (4 - (lg_sl ([.ref (hPl 99), .ref (hRo 99)])).length) Slot.unset).toArray = ls at hl ⊢
  have hl : lv_has ls 4 [(0, .ref (hPl 99)), (1, .ref (hRo 99))] := hl
  unfold f_X6_failsAt at hf
  obtain ⟨H, hHe⟩ : ∃ z, z = s.heap := ⟨_, rfl⟩
  obtain ⟨locs, hLe⟩ : ∃ z : List Loc, z = [] := ⟨_, rfl⟩
  rw [← hLe]
  have hS : va_S nOne s.heap H locs := by rw [hHe, hLe]; exact hS
  have hP : va_P D vwCl (wPl K hPl gPl2 gPl3 sPl ++ wRo K hRo sRo) H := by rw [hHe]; exact hP
  have hgo : W p l e (headSpec wz_X6_failsAt r_X6_failsAt).room s m args below meth c H locs 0 0 Q (F0 m 0 ls []) := by
    refine lv_aload_n hx hb dX6_failsAt_0 rfl (lv_at hl 1 rfl) ?_
    refine va_get (D := D) (ci := 8) (v := .int (sRo.1 1)) (C := RX9) (T := TX9) (N := 19) hx hb hts iX9 hown hK hP (5 + 0) (rwr ln_Pl o_Ro) rfl 1 (by decide) (htl _ (mB30 _ (List.mem_of_getElem? (i := 5) rfl))) (fun _ h9 => h9) rfl dX6_failsAt_1 ?_
    refine lv_istore_n (lv' := [(2, .int (sRo.1 1)), (0, .ref (hPl 99)), (1, .ref (hRo 99))]) hx hb dX6_failsAt_4 rfl hl (by decide) rfl (fun ls hl => ?_)
    refine lv_iconst (v := (0 : Int32)) hx hb dX6_failsAt_5 (by decide) ?_
    refine lv_istore_n (lv' := [(3, .int (0 : Int32)), (2, .int (sRo.1 1)), (0, .ref (hPl 99)), (1, .ref (hRo 99))]) hx hb dX6_failsAt_6 rfl hl (by decide) rfl (fun ls hl => ?_)
    exact w7 F (sRo.1 1) (0 : Int32) H locs ls hf hP hS (lv_sub hl [2, 3, 1, 0] rfl)
  rw [hHe] at hgo
  exact hgo

def wz_X6_pence : List Cond := .code yX6_pence cX6_pence 4 (some .int) :: wsL_law
abbrev r_X6_pence : Room := { frames := 1, cells := 0, slots := 0, locals := 22 }
set_option maxHeartbeats 4000000 in
set_option maxRecDepth 100000 in
theorem c_X6_pence (l : Launch) (D : va_G) (K : Nat → ClassId) (F : Nat) (hPl : Nat → Nat) (gPl2 : Nat → Nat) (gPl3 : Nat → Nat) (hRo : Nat → Nat) (sPl : MS) (sRo : MS) (res : Int32) (hf : f_X6_pence F sPl sRo = some res) : Met l yX6_pence wz_X6_pence r_X6_pence (va_Pc [.ref (hPl 99), .ref (hRo 99)] (PR D K (wPl K hPl gPl2 gPl3 sPl ++ wRo K hRo sRo))) (va_Qi (fun r (_ : Unit) => r = res) BN nOne) 0 0 nOne := by
  refine Met.ofW (cc := cX6_pence) (maxL := 4) (ret := (some .int)) (by decide) rfl ?_
  intro p e s m args below meth c s₁ B hml hv
  obtain ⟨hargs, hP, hK⟩ := hv
  have hx := B.exec
  have hb := B.bytes
  have hr := B.returns
  have hts := atoms_spec (ws := wz_X6_pence) B.pre
  have htl : ∀ w ∈ wsL_law, w.before args s = true := fun w h => hts w (List.mem_cons_of_mem _ h)
  have hown : s.vm.findClass RX6 = some m.cls := findClass_of_methodNamed B.named
  have hlocks := B.notSynchronized
  have hS : va_S nOne s.heap s.heap [] := va_S.rf
  have iX6 : ∀ w ∈ wsX60, w ∈ wz_X6_pence := fun w h => List.mem_cons_of_mem _ (inlX6 w h)
  have iX9 : ∀ w ∈ wsX90, w ∈ wz_X6_pence := fun w h => List.mem_cons_of_mem _ (inlX9 w h)
  suffices hgo : ∀ Q : State → Prop, Q = MQ below (va_Qi (fun r (_ : Unit) => r = res) BN nOne) args s 0 0 nOne → W p l e (headSpec wz_X6_pence r_X6_pence).room s m args below meth c s.heap [] 0 0 Q (entryFrame m args 4) from hgo _ rfl
  intro Q hQ
  have w46 : ∀ (k4 : Int32 → Int32 → Option Int32), (∀ (x2 : Int32), ∀ (x3 : Int32), ∀ (H : Heap) (locs : List Loc) (ls : Array Slot), k4 x2 x3 = some res → va_P D vwCl (wPl K hPl gPl2 gPl3 sPl ++ wRo K hRo sRo) H → va_S nOne s.heap H locs → lv_has ls 4 [(0, .ref (hPl 99)), (1, .ref (hRo 99)), (2, .int x2), (3, .int x3)] → W p l e (headSpec wz_X6_pence r_X6_pence).room s m args below meth c H locs 0 0 Q (F0 m 4 ls [])) → ∀ (x3 : Int32), ∀ (y0 : Int32), ∀ (y1 : Int32), ∀ (H : Heap) (locs : List Loc) (ls : Array Slot), f_X6_pence_46 F sPl sRo k4 x3 y0 y1 = some res → va_P D vwCl (wPl K hPl gPl2 gPl3 sPl ++ wRo K hRo sRo) H → va_S nOne s.heap H locs → lv_has ls 4 [(0, .ref (hPl 99)), (1, .ref (hRo 99)), (3, .int x3)] → W p l e (headSpec wz_X6_pence r_X6_pence).room s m args below meth c H locs 0 0 Q (F0 m 46 ls [.int y1, .int y0]) := by
    intro k4 hk4 x3 y0 y1 H locs ls hf hP hS hl
    unfold f_X6_pence_46 at hf
    refine lv_iadd hx hb dX6_pence_46 ?_
    refine lv_istore_n (lv' := [(2, .int (y0 + y1)), (0, .ref (hPl 99)), (1, .ref (hRo 99)), (3, .int x3)]) hx hb dX6_pence_47 rfl hl (by decide) rfl (fun ls hl => ?_)
    obtain ⟨v7, ev7⟩ : ∃ z : Int32, z = x3 + (1 : Int32) := ⟨_, rfl⟩
    have hf := lz_s hf v7 ev7
    refine lv_iinc (v := v7) (lv' := [(3, .int v7), (2, .int (y0 + y1)), (0, .ref (hPl 99)), (1, .ref (hRo 99))]) hx hb dX6_pence_48 hl (k := 3) rfl (by rw [ev7]; rfl) (by decide) rfl (fun ls hl => ?_)
    refine lv_goto (tgt := 4) hx hb dX6_pence_51 (by decide) ?_
    exact hk4 (y0 + y1) v7 H locs ls hf hP hS (lv_sub hl [2, 3, 1, 0] rfl)
  have w4 : ∀ (n : Nat), ∀ (x2 : Int32), ∀ (x3 : Int32), ∀ (H : Heap) (locs : List Loc) (ls : Array Slot), f_X6_pence_4 F sPl sRo n x2 x3 = some res → va_P D vwCl (wPl K hPl gPl2 gPl3 sPl ++ wRo K hRo sRo) H → va_S nOne s.heap H locs → lv_has ls 4 [(0, .ref (hPl 99)), (1, .ref (hRo 99)), (2, .int x2), (3, .int x3)] → W p l e (headSpec wz_X6_pence r_X6_pence).room s m args below meth c H locs 0 0 Q (F0 m 4 ls []) := by
    intro n
    induction n with
    | zero =>
      intro x2 x3 H locs ls hf
      exact absurd (show none = some res from hf) (fun h => nomatch h)
    | succ n ih =>
      intro x2 x3 H locs ls hf hP hS hl
      rw [f_X6_pence_4] at hf
      refine lv_iload_n hx hb dX6_pence_4 rfl (lv_at hl 3 rfl) ?_
      refine lv_aload_n hx hb dX6_pence_5 rfl (lv_at hl 1 rfl) ?_
      refine va_get (D := D) (ci := 8) (v := .int (sRo.1 8)) (C := RX9) (T := TX9) (N := 19) hx hb hts iX9 hown hK hP (5 + 0) (rwr ln_Pl o_Ro) rfl 8 (by decide) (htl _ (mB30 _ (List.mem_of_getElem? (i := 6) rfl))) (fun _ h9 => h9) rfl dX6_pence_6 ?_
      refine lv_iconst (v := (1 : Int32)) hx hb dX6_pence_9 (by decide) ?_
      refine lv_isub hx hb dX6_pence_10 ?_
      refine lv_icmp_ge (tgt := 54) hx hb dX6_pence_11 (by decide) (fun c1 => ?_) (fun c1 => ?_)
      · have hf := it_t hf c1
        refine lv_iload_n hx hb dX6_pence_54 rfl (lv_at hl 2 rfl) ?_
        have e9 := Option.some.inj hf
        rw [hQ]
        exact W.iret (v := x2) hx hb hr (fun t ht hW => ⟨⟨x2, (), rfl, e9, trivial⟩, hS.F ht⟩) hS.2.2 dX6_pence_55
      · have hf := it_f hf c1
        refine lv_iload_n hx hb dX6_pence_14 rfl (lv_at hl 2 rfl) ?_
        refine lv_aload_n hx hb dX6_pence_15 rfl (lv_at hl 0 rfl) ?_
        refine va_get (D := D) (ci := 5) (v := .ref (hPl 0)) (C := RX6) (T := TX6) (N := 4) hx hb hts iX6 hown hK hP 0 (rwl o_Pl) rfl 0 (by decide) (htl _ (mB4 _ (List.mem_of_getElem? (i := 0) rfl))) (fun _ h9 => h9) rfl dX6_pence_16 ?_
        refine lv_iload_n hx hb dX6_pence_19 rfl (lv_at hl 3 rfl) ?_
        obtain ⟨g2, hf⟩ := gd_s hf
        refine va_iald hx hb hK hP 1 0 (f := sPl.2.2.1 0) (rwl a_Pl_0) rfl (vpb_in g2) dX6_pence_20 ?_
        refine lv_if_le (tgt := 45) hx hb dX6_pence_21 (by decide) (fun c3 => ?_) (fun c3 => ?_)
        · have hf := it_t hf c3
          refine lv_iconst (v := (0 : Int32)) hx hb dX6_pence_45 (by decide) ?_
          exact w46 (f_X6_pence_4 F sPl sRo n) ih x3 x2 (0 : Int32) H locs ls hf hP hS (lv_sub hl [0, 1, 3] rfl)
        · have hf := it_f hf c3
          refine lv_aload_n hx hb dX6_pence_24 rfl (lv_at hl 0 rfl) ?_
          refine va_get (D := D) (ci := 5) (v := .ref (hPl 0)) (C := RX6) (T := TX6) (N := 4) hx hb hts iX6 hown hK hP 0 (rwl o_Pl) rfl 0 (by decide) (htl _ (mB4 _ (List.mem_of_getElem? (i := 0) rfl))) (fun _ h9 => h9) rfl dX6_pence_25 ?_
          refine lv_iload_n hx hb dX6_pence_28 rfl (lv_at hl 3 rfl) ?_
          obtain ⟨g4, hf⟩ := gd_s hf
          refine va_iald hx hb hK hP 1 0 (f := sPl.2.2.1 0) (rwl a_Pl_0) rfl (vpb_in g4) dX6_pence_29 ?_
          refine lv_aload_n hx hb dX6_pence_30 rfl (lv_at hl 1 rfl) ?_
          refine lv_iload_n hx hb dX6_pence_31 rfl (lv_at hl 3 rfl) ?_
          refine lv_iconst (v := (0 : Int32)) hx hb dX6_pence_32 (by decide) ?_
          obtain ⟨o5, go5, hf⟩ := bd_s hf
          refine ro_Vi (As := [.int x3, .int (0 : Int32)]) (rest := [.int (sPl.2.2.1 0 x3.toNatClampNeg), .int x2]) ⟨hx, hb, hml, hown, hts⟩ (c_X9_priceAt l D K F hRo sRo x3 (0 : Int32) o5 go5) (cwV 2 hts (gcV_X9_priceAt (mB31 _ (List.mem_of_getElem? (i := 13) rfl))) rfl rfl rfl hdV_X9_priceAt ⟨Nat.le_of_ble_eq_true rfl, Nat.le_of_ble_eq_true rfl⟩) hK hP hS (va_PL (cs := [wPl K hPl gPl2 gPl3 sPl, wRo K hRo sRo]) (cc := [wRo K hRo sRo]) hP (fl2 _ _) [1] rfl (fl1 _)) (va_recv hK hP (ci := 8) (q0 := (5 + 0)) rfl (rwr ln_Pl o_Ro)) rfl hl.1 rfl (Nat.le_of_ble_eq_true rfl) dX6_pence_33 ⟨Nat.zero_le _, Nat.zero_le _⟩ (fun H locs hP hS => ?_)
          refine lv_imul hx hb dX6_pence_36 ?_
          refine lv_aload_n hx hb dX6_pence_37 rfl (lv_at hl 1 rfl) ?_
          refine va_get (D := D) (ci := 8) (v := .int (sRo.1 2)) (C := RX9) (T := TX9) (N := 19) hx hb hts iX9 hown hK hP (5 + 0) (rwr ln_Pl o_Ro) rfl 2 (by decide) (htl _ (mB31 _ (List.mem_of_getElem? (i := 12) rfl))) (fun _ h9 => h9) rfl dX6_pence_38 ?_
          refine lv_iadd hx hb dX6_pence_41 ?_
          refine lv_topi (fun v6 ev6 => ?_)
          have hf := lz_s hf v6 ev6
          refine lv_goto (tgt := 46) hx hb dX6_pence_42 (by decide) ?_
          exact w46 (f_X6_pence_4 F sPl sRo n) ih x3 x2 v6 H locs ls hf hP hS (lv_sub hl [0, 1, 3] rfl)
  have hen : entryFrame m args 4 = entryFrame m (([.ref (hPl 99), .ref (hRo 99)] : List Value).toArray) 4 := by rw [hargs]
  have hl := lv_entry ([.ref (hPl 99), .ref (hRo 99)]) (n := 4) (Nat.le_of_ble_eq_true rfl)
  rw [hen, lg_entry_eq]
  generalize (lg_sl ([.ref (hPl 99), .ref (hRo 99)]) ++ List.replicate (4 - (lg_sl ([.ref (hPl 99), .ref (hRo 99)])).length) Slot.unset).toArray = ls at hl ⊢
  have hl : lv_has ls 4 [(0, .ref (hPl 99)), (1, .ref (hRo 99))] := hl
  unfold f_X6_pence at hf
  obtain ⟨H, hHe⟩ : ∃ z, z = s.heap := ⟨_, rfl⟩
  obtain ⟨locs, hLe⟩ : ∃ z : List Loc, z = [] := ⟨_, rfl⟩
  rw [← hLe]
  have hS : va_S nOne s.heap H locs := by rw [hHe, hLe]; exact hS
  have hP : va_P D vwCl (wPl K hPl gPl2 gPl3 sPl ++ wRo K hRo sRo) H := by rw [hHe]; exact hP
  have hgo : W p l e (headSpec wz_X6_pence r_X6_pence).room s m args below meth c H locs 0 0 Q (F0 m 0 ls []) := by
    refine lv_iconst (v := (0 : Int32)) hx hb dX6_pence_0 (by decide) ?_
    refine lv_istore_n (lv' := [(2, .int (0 : Int32)), (0, .ref (hPl 99)), (1, .ref (hRo 99))]) hx hb dX6_pence_1 rfl hl (by decide) rfl (fun ls hl => ?_)
    refine lv_iconst (v := (0 : Int32)) hx hb dX6_pence_2 (by decide) ?_
    refine lv_istore_n (lv' := [(3, .int (0 : Int32)), (2, .int (0 : Int32)), (0, .ref (hPl 99)), (1, .ref (hRo 99))]) hx hb dX6_pence_3 rfl hl (by decide) rfl (fun ls hl => ?_)
    exact w4 F (0 : Int32) (0 : Int32) H locs ls hf hP hS (lv_sub hl [2, 3, 1, 0] rfl)
  rw [hHe] at hgo
  exact hgo

theorem gcV_X9_legMinutes {T0 : Cond} {own : String} {i : Nat} (h : Cond.methodLink own i yX9_legMinutes ∈ wsL_law) : GoodIn (T0 :: wsL_law) (wsV own i RX9 yX9_legMinutes wz_X9_legMinutes) := gV h (mB36 _ (List.mem_of_getElem? (i := 0) rfl)) (mB36 _ (List.mem_of_getElem? (i := 1) rfl)) (mB1 _ (List.mem_of_getElem? (i := 17) rfl)) (mB36 _ (List.mem_of_getElem? (i := 2) rfl))
theorem hdV_X9_legMinutes : yX9_legMinutes.cls = RX9 ∧ yX9_legMinutes.cls ≠ "java/lang/invoke/MethodHandle" ∧ yX9_legMinutes.cls ≠ "java/lang/invoke/VarHandle" ∧ (parseMethodDescriptor yX9_legMinutes.desc).map (fun d => d.parameters.length) = some 1 := by decide +kernel
def wz_X6_minutes : List Cond := .code yX6_minutes cX6_minutes 4 (some .int) :: wsL_law
abbrev r_X6_minutes : Room := { frames := 2, cells := 0, slots := 0, locals := 43 }
set_option maxHeartbeats 4000000 in
set_option maxRecDepth 100000 in
theorem c_X6_minutes (l : Launch) (D : va_G) (K : Nat → ClassId) (F : Nat) (hPl : Nat → Nat) (gPl2 : Nat → Nat) (gPl3 : Nat → Nat) (hRo : Nat → Nat) (sPl : MS) (sRo : MS) (res : Int32) (hf : f_X6_minutes F sPl sRo = some res) : Met l yX6_minutes wz_X6_minutes r_X6_minutes (va_Pc [.ref (hPl 99), .ref (hRo 99)] (PR D K (wPl K hPl gPl2 gPl3 sPl ++ wRo K hRo sRo))) (va_Qi (fun r (_ : Unit) => r = res) BN nOne) 0 0 nOne := by
  refine Met.ofW (cc := cX6_minutes) (maxL := 4) (ret := (some .int)) (by decide) rfl ?_
  intro p e s m args below meth c s₁ B hml hv
  obtain ⟨hargs, hP, hK⟩ := hv
  have hx := B.exec
  have hb := B.bytes
  have hr := B.returns
  have hts := atoms_spec (ws := wz_X6_minutes) B.pre
  have htl : ∀ w ∈ wsL_law, w.before args s = true := fun w h => hts w (List.mem_cons_of_mem _ h)
  have hown : s.vm.findClass RX6 = some m.cls := findClass_of_methodNamed B.named
  have hlocks := B.notSynchronized
  have hS : va_S nOne s.heap s.heap [] := va_S.rf
  have iX6 : ∀ w ∈ wsX60, w ∈ wz_X6_minutes := fun w h => List.mem_cons_of_mem _ (inlX6 w h)
  have iX9 : ∀ w ∈ wsX90, w ∈ wz_X6_minutes := fun w h => List.mem_cons_of_mem _ (inlX9 w h)
  suffices hgo : ∀ Q : State → Prop, Q = MQ below (va_Qi (fun r (_ : Unit) => r = res) BN nOne) args s 0 0 nOne → W p l e (headSpec wz_X6_minutes r_X6_minutes).room s m args below meth c s.heap [] 0 0 Q (entryFrame m args 4) from hgo _ rfl
  intro Q hQ
  have w37 : ∀ (k4 : Int32 → Int32 → Option Int32), (∀ (x2 : Int32), ∀ (x3 : Int32), ∀ (H : Heap) (locs : List Loc) (ls : Array Slot), k4 x2 x3 = some res → va_P D vwCl (wPl K hPl gPl2 gPl3 sPl ++ wRo K hRo sRo) H → va_S nOne s.heap H locs → lv_has ls 4 [(0, .ref (hPl 99)), (1, .ref (hRo 99)), (2, .int x2), (3, .int x3)] → W p l e (headSpec wz_X6_minutes r_X6_minutes).room s m args below meth c H locs 0 0 Q (F0 m 4 ls [])) → ∀ (x3 : Int32), ∀ (y0 : Int32), ∀ (y1 : Int32), ∀ (y2 : Int32), ∀ (H : Heap) (locs : List Loc) (ls : Array Slot), f_X6_minutes_37 F sPl sRo k4 x3 y0 y1 y2 = some res → va_P D vwCl (wPl K hPl gPl2 gPl3 sPl ++ wRo K hRo sRo) H → va_S nOne s.heap H locs → lv_has ls 4 [(0, .ref (hPl 99)), (1, .ref (hRo 99)), (3, .int x3)] → W p l e (headSpec wz_X6_minutes r_X6_minutes).room s m args below meth c H locs 0 0 Q (F0 m 37 ls [.int y2, .int y1, .int y0]) := by
    intro k4 hk4 x3 y0 y1 y2 H locs ls hf hP hS hl
    unfold f_X6_minutes_37 at hf
    refine lv_iadd hx hb dX6_minutes_37 ?_
    refine lv_iadd hx hb dX6_minutes_38 ?_
    refine lv_istore_n (lv' := [(2, .int (y0 + (y1 + y2))), (0, .ref (hPl 99)), (1, .ref (hRo 99)), (3, .int x3)]) hx hb dX6_minutes_39 rfl hl (by decide) rfl (fun ls hl => ?_)
    obtain ⟨v5, ev5⟩ : ∃ z : Int32, z = x3 + (1 : Int32) := ⟨_, rfl⟩
    have hf := lz_s hf v5 ev5
    refine lv_iinc (v := v5) (lv' := [(3, .int v5), (2, .int (y0 + (y1 + y2))), (0, .ref (hPl 99)), (1, .ref (hRo 99))]) hx hb dX6_minutes_40 hl (k := 3) rfl (by rw [ev5]; rfl) (by decide) rfl (fun ls hl => ?_)
    refine lv_goto (tgt := 4) hx hb dX6_minutes_43 (by decide) ?_
    exact hk4 (y0 + (y1 + y2)) v5 H locs ls hf hP hS (lv_sub hl [2, 3, 1, 0] rfl)
  have w4 : ∀ (n : Nat), ∀ (x2 : Int32), ∀ (x3 : Int32), ∀ (H : Heap) (locs : List Loc) (ls : Array Slot), f_X6_minutes_4 F sPl sRo n x2 x3 = some res → va_P D vwCl (wPl K hPl gPl2 gPl3 sPl ++ wRo K hRo sRo) H → va_S nOne s.heap H locs → lv_has ls 4 [(0, .ref (hPl 99)), (1, .ref (hRo 99)), (2, .int x2), (3, .int x3)] → W p l e (headSpec wz_X6_minutes r_X6_minutes).room s m args below meth c H locs 0 0 Q (F0 m 4 ls []) := by
    intro n
    induction n with
    | zero =>
      intro x2 x3 H locs ls hf
      exact absurd (show none = some res from hf) (fun h => nomatch h)
    | succ n ih =>
      intro x2 x3 H locs ls hf hP hS hl
      rw [f_X6_minutes_4] at hf
      refine lv_iload_n hx hb dX6_minutes_4 rfl (lv_at hl 3 rfl) ?_
      refine lv_aload_n hx hb dX6_minutes_5 rfl (lv_at hl 1 rfl) ?_
      refine va_get (D := D) (ci := 8) (v := .int (sRo.1 8)) (C := RX9) (T := TX9) (N := 19) hx hb hts iX9 hown hK hP (5 + 0) (rwr ln_Pl o_Ro) rfl 8 (by decide) (htl _ (mB30 _ (List.mem_of_getElem? (i := 6) rfl))) (fun _ h9 => h9) rfl dX6_minutes_6 ?_
      refine lv_iconst (v := (1 : Int32)) hx hb dX6_minutes_9 (by decide) ?_
      refine lv_isub hx hb dX6_minutes_10 ?_
      refine lv_icmp_ge (tgt := 46) hx hb dX6_minutes_11 (by decide) (fun c1 => ?_) (fun c1 => ?_)
      · have hf := it_t hf c1
        refine lv_iload_n hx hb dX6_minutes_46 rfl (lv_at hl 2 rfl) ?_
        have e9 := Option.some.inj hf
        rw [hQ]
        exact W.iret (v := x2) hx hb hr (fun t ht hW => ⟨⟨x2, (), rfl, e9, trivial⟩, hS.F ht⟩) hS.2.2 dX6_minutes_47
      · have hf := it_f hf c1
        refine lv_iload_n hx hb dX6_minutes_14 rfl (lv_at hl 2 rfl) ?_
        refine lv_aload_n hx hb dX6_minutes_15 rfl (lv_at hl 1 rfl) ?_
        refine lv_iload_n hx hb dX6_minutes_16 rfl (lv_at hl 3 rfl) ?_
        obtain ⟨o2, go2, hf⟩ := bd_s hf
        refine ro_Vi (As := [.int x3]) (rest := [.int x2]) ⟨hx, hb, hml, hown, hts⟩ (c_X9_legMinutes l D K F hRo sRo x3 o2 go2) (cwV 1 hts (gcV_X9_legMinutes (mB35 _ (List.mem_of_getElem? (i := 23) rfl))) rfl rfl rfl hdV_X9_legMinutes ⟨Nat.le_of_ble_eq_true rfl, Nat.le_of_ble_eq_true rfl⟩) hK hP hS (va_PL (cs := [wPl K hPl gPl2 gPl3 sPl, wRo K hRo sRo]) (cc := [wRo K hRo sRo]) hP (fl2 _ _) [1] rfl (fl1 _)) (va_recv hK hP (ci := 8) (q0 := (5 + 0)) rfl (rwr ln_Pl o_Ro)) rfl hl.1 rfl (Nat.le_of_ble_eq_true rfl) dX6_minutes_17 ⟨Nat.zero_le _, Nat.zero_le _⟩ (fun H locs hP hS => ?_)
        refine lv_aload_n hx hb dX6_minutes_20 rfl (lv_at hl 0 rfl) ?_
        refine va_get (D := D) (ci := 5) (v := .ref (hPl 0)) (C := RX6) (T := TX6) (N := 4) hx hb hts iX6 hown hK hP 0 (rwl o_Pl) rfl 0 (by decide) (htl _ (mB4 _ (List.mem_of_getElem? (i := 0) rfl))) (fun _ h9 => h9) rfl dX6_minutes_21 ?_
        refine lv_iload_n hx hb dX6_minutes_24 rfl (lv_at hl 3 rfl) ?_
        obtain ⟨g3, hf⟩ := gd_s hf
        refine va_iald hx hb hK hP 1 0 (f := sPl.2.2.1 0) (rwl a_Pl_0) rfl (vpb_in g3) dX6_minutes_25 ?_
        refine lv_if_le (tgt := 36) hx hb dX6_minutes_26 (by decide) (fun c4 => ?_) (fun c4 => ?_)
        · have hf := it_t hf c4
          refine lv_iconst (v := (0 : Int32)) hx hb dX6_minutes_36 (by decide) ?_
          exact w37 (f_X6_minutes_4 F sPl sRo n) ih x3 x2 o2 (0 : Int32) H locs ls hf hP hS (lv_sub hl [0, 1, 3] rfl)
        · have hf := it_f hf c4
          refine lv_aload_n hx hb dX6_minutes_29 rfl (lv_at hl 1 rfl) ?_
          refine va_get (D := D) (ci := 8) (v := .int (sRo.1 3)) (C := RX9) (T := TX9) (N := 19) hx hb hts iX9 hown hK hP (5 + 0) (rwr ln_Pl o_Ro) rfl 3 (by decide) (htl _ (mB35 _ (List.mem_of_getElem? (i := 22) rfl))) (fun _ h9 => h9) rfl dX6_minutes_30 ?_
          refine lv_goto (tgt := 37) hx hb dX6_minutes_33 (by decide) ?_
          exact w37 (f_X6_minutes_4 F sPl sRo n) ih x3 x2 o2 (sRo.1 3) H locs ls hf hP hS (lv_sub hl [0, 1, 3] rfl)
  have hen : entryFrame m args 4 = entryFrame m (([.ref (hPl 99), .ref (hRo 99)] : List Value).toArray) 4 := by rw [hargs]
  have hl := lv_entry ([.ref (hPl 99), .ref (hRo 99)]) (n := 4) (Nat.le_of_ble_eq_true rfl)
  rw [hen, lg_entry_eq]
  generalize (lg_sl ([.ref (hPl 99), .ref (hRo 99)]) ++ List.replicate (4 - (lg_sl ([.ref (hPl 99), .ref (hRo 99)])).length) Slot.unset).toArray = ls at hl ⊢
  have hl : lv_has ls 4 [(0, .ref (hPl 99)), (1, .ref (hRo 99))] := hl
  unfold f_X6_minutes at hf
  obtain ⟨H, hHe⟩ : ∃ z, z = s.heap := ⟨_, rfl⟩
  obtain ⟨locs, hLe⟩ : ∃ z : List Loc, z = [] := ⟨_, rfl⟩
  rw [← hLe]
  have hS : va_S nOne s.heap H locs := by rw [hHe, hLe]; exact hS
  have hP : va_P D vwCl (wPl K hPl gPl2 gPl3 sPl ++ wRo K hRo sRo) H := by rw [hHe]; exact hP
  have hgo : W p l e (headSpec wz_X6_minutes r_X6_minutes).room s m args below meth c H locs 0 0 Q (F0 m 0 ls []) := by
    refine lv_iconst (v := (0 : Int32)) hx hb dX6_minutes_0 (by decide) ?_
    refine lv_istore_n (lv' := [(2, .int (0 : Int32)), (0, .ref (hPl 99)), (1, .ref (hRo 99))]) hx hb dX6_minutes_1 rfl hl (by decide) rfl (fun ls hl => ?_)
    refine lv_iconst (v := (0 : Int32)) hx hb dX6_minutes_2 (by decide) ?_
    refine lv_istore_n (lv' := [(3, .int (0 : Int32)), (2, .int (0 : Int32)), (0, .ref (hPl 99)), (1, .ref (hRo 99))]) hx hb dX6_minutes_3 rfl hl (by decide) rfl (fun ls hl => ?_)
    exact w4 F (0 : Int32) (0 : Int32) H locs ls hf hP hS (lv_sub hl [2, 3, 1, 0] rfl)
  rw [hHe] at hgo
  exact hgo

def wz_X6_buyBest : List Cond := .code yX6_buyBest cX6_buyBest 6 none :: wsL_law
abbrev r_X6_buyBest : Room := { frames := 1, cells := 0, slots := 0, locals := 30 }
set_option maxHeartbeats 4000000 in
set_option maxRecDepth 100000 in
theorem c_X6_buyBest (l : Launch) (D : va_G) (K : Nat → ClassId) (F : Nat) (hPl : Nat → Nat) (gPl2 : Nat → Nat) (gPl3 : Nat → Nat) (hRo : Nat → Nat) (aq0 nq0 : Nat) (sz : Nat) (sPl : MS) (sRo : MS) (fq0 : (Nat → Int32)) (p2 : Int32) (res : MS × (Nat → Int32)) (hf : f_X6_buyBest F sRo nq0 p2 sPl fq0 = some res) : Met l yX6_buyBest wz_X6_buyBest r_X6_buyBest (va_Pc [.ref (hPl 99), .ref (hRo 99), .int p2, .ref aq0] (PW D K (wPl K hPl gPl2 gPl3 sPl ++ wRo K hRo sRo ++ wAI K aq0 nq0 fq0) sz)) (va_Qv (fun u => u = res) (fun u t => BW D K (va_A (wPl K hPl gPl2 gPl3 sPl ++ wRo K hRo sRo ++ wAI K aq0 nq0 fq0) sz) (wPl K hPl gPl2 gPl3 u.1 ++ wRo K hRo sRo ++ wAI K aq0 nq0 u.2) t) (va_A (wPl K hPl gPl2 gPl3 sPl ++ wRo K hRo sRo ++ wAI K aq0 nq0 fq0) sz)) 0 0 (va_A (wPl K hPl gPl2 gPl3 sPl ++ wRo K hRo sRo ++ wAI K aq0 nq0 fq0) sz) := by
  refine Met.ofW (cc := cX6_buyBest) (maxL := 6) (ret := none) (by decide) rfl ?_
  intro p e s m args below meth c s₁ B hml hv
  obtain ⟨hargs, hsz, hP, hK, hD0⟩ := hv
  have hx := B.exec
  have hb := B.bytes
  have hr := B.returns
  have hts := atoms_spec (ws := wz_X6_buyBest) B.pre
  have htl : ∀ w ∈ wsL_law, w.before args s = true := fun w h => hts w (List.mem_cons_of_mem _ h)
  have hown : s.vm.findClass RX6 = some m.cls := findClass_of_methodNamed B.named
  have hlocks := B.notSynchronized
  subst hsz
  have hD := hD0.self (sz := s.heap.size)
  generalize hAe : va_A (wPl K hPl gPl2 gPl3 sPl ++ wRo K hRo sRo ++ wAI K aq0 nq0 fq0) s.heap.size = A at hD ⊢
  have hA : ∀ q : Nat, s.heap.size ≤ q → A q := fun q h => by rw [← hAe]; exact Or.inr h
  have hS : va_S A s.heap s.heap [] := va_S.rf
  have iX6 : ∀ w ∈ wsX60, w ∈ wz_X6_buyBest := fun w h => List.mem_cons_of_mem _ (inlX6 w h)
  have iX9 : ∀ w ∈ wsX90, w ∈ wz_X6_buyBest := fun w h => List.mem_cons_of_mem _ (inlX9 w h)
  suffices hgo : ∀ Q : State → Prop, Q = MQ below (va_Qv (fun u => u = res) (fun u t => BW D K A (wPl K hPl gPl2 gPl3 u.1 ++ wRo K hRo sRo ++ wAI K aq0 nq0 u.2) t) A) args s 0 0 A → W p l e (headSpec wz_X6_buyBest r_X6_buyBest).room s m args below meth c s.heap [] 0 0 Q (entryFrame m args 6) from hgo _ rfl
  intro Q hQ
  have w31 : ∀ (n : Nat), ∀ (x4 : Int32), ∀ (x5 : Int32), ∀ (sPl : MS), ∀ (fq0 : (Nat → Int32)), ∀ (H : Heap) (locs : List Loc) (ls : Array Slot), f_X6_buyBest_31 F sRo nq0 p2 n x4 x5 sPl fq0 = some res → va_P D vwCl (wPl K hPl gPl2 gPl3 sPl ++ wRo K hRo sRo ++ wAI K aq0 nq0 fq0) H → va_D A (wPl K hPl gPl2 gPl3 sPl ++ wRo K hRo sRo ++ wAI K aq0 nq0 fq0) → va_S A s.heap H locs → lv_has ls 6 [(0, .ref (hPl 99)), (1, .ref (hRo 99)), (3, .ref aq0), (4, .int x4), (5, .int x5)] → W p l e (headSpec wz_X6_buyBest r_X6_buyBest).room s m args below meth c H locs 0 0 Q (F0 m 31 ls []) := by
    intro n
    induction n with
    | zero =>
      intro x4 x5 sPl fq0 H locs ls hf
      exact absurd (show none = some res from hf) (fun h => nomatch h)
    | succ n ih =>
      intro x4 x5 sPl fq0 H locs ls hf hP hD hS hl
      rw [f_X6_buyBest_31] at hf
      refine lv_iload hx hb dX6_buyBest_31 (lv_at hl 4 rfl) ?_
      refine lv_aload_n hx hb dX6_buyBest_33 rfl (lv_at hl 1 rfl) ?_
      refine va_get (D := D) (ci := 8) (v := .int (sRo.1 0)) (C := RX9) (T := TX9) (N := 19) hx hb hts iX9 hown hK hP (5 + 0) (rwl (rwr ln_Pl o_Ro)) rfl 0 (by decide) (htl _ (mB30 _ (List.mem_of_getElem? (i := 7) rfl))) (fun _ h9 => h9) rfl dX6_buyBest_34 ?_
      refine lv_icmp_gt (tgt := 74) hx hb dX6_buyBest_37 (by decide) (fun c3 => ?_) (fun c3 => ?_)
      · have hf := it_t hf c3
        have e9 := Option.some.inj hf
        rw [hQ]
        exact W.vret hx hb hr (fun t ht hW => ⟨⟨(sPl, fq0), rfl, e9, ⟨by rw [ht]; exact hP, va_K.moved hW.alike hK, hD⟩⟩, hS.F ht⟩) hS.2.2 dX6_buyBest_74
      · have hf := it_f hf c3
        refine lv_aload_n hx hb dX6_buyBest_40 rfl (lv_at hl 0 rfl) ?_
        refine va_get (D := D) (ci := 5) (v := .ref (hPl 1)) (C := RX6) (T := TX6) (N := 4) hx hb hts iX6 hown hK hP 0 (rwl (rwl o_Pl)) rfl 1 (by decide) (htl _ (mB4 _ (List.mem_of_getElem? (i := 1) rfl))) (fun _ h9 => h9) rfl dX6_buyBest_41 ?_
        refine lv_iload hx hb dX6_buyBest_44 (lv_at hl 4 rfl) ?_
        refine lv_aload_n hx hb dX6_buyBest_46 rfl (lv_at hl 0 rfl) ?_
        refine va_get (D := D) (ci := 5) (v := .ref (hPl 1)) (C := RX6) (T := TX6) (N := 4) hx hb hts iX6 hown hK hP 0 (rwl (rwl o_Pl)) rfl 1 (by decide) (htl _ (mB4 _ (List.mem_of_getElem? (i := 1) rfl))) (fun _ h9 => h9) rfl dX6_buyBest_47 ?_
        refine lv_iload hx hb dX6_buyBest_50 (lv_at hl 4 rfl) ?_
        refine lv_aload_n hx hb dX6_buyBest_52 rfl (lv_at hl 2 rfl) ?_
        refine lv_iload hx hb dX6_buyBest_53 (lv_at hl 4 rfl) ?_
        obtain ⟨g4, hf⟩ := gd_s hf
        refine va_iald hx hb hK hP ((5 + 10) + 0) 0 (f := fq0) (rwr (lnA ln_Pl ln_Ro) o_AI) rfl (vpb_in g4) dX6_buyBest_55 ?_
        refine lv_iload hx hb dX6_buyBest_56 (lv_at hl 3 rfl) ?_
        refine lv_i2l (v := x4.toInt64) hx hb dX6_buyBest_58 rfl ?_
        refine lv_aload_n hx hb dX6_buyBest_59 rfl (lv_at hl 1 rfl) ?_
        refine va_get (D := D) (ci := 8) (v := .int (sRo.1 2)) (C := RX9) (T := TX9) (N := 19) hx hb hts iX9 hown hK hP (5 + 0) (rwl (rwr ln_Pl o_Ro)) rfl 2 (by decide) (htl _ (mB31 _ (List.mem_of_getElem? (i := 12) rfl))) (fun _ h9 => h9) rfl dX6_buyBest_60 ?_
        refine lv_i2l (v := (sRo.1 2).toInt64) hx hb dX6_buyBest_63 rfl ?_
        obtain ⟨o5, go5, hf⟩ := bd_s hf
        refine ro_Sl (As := [.ref (hPl 1), .int x5, .int (fq0 x5.toNatClampNeg), .long x4.toInt64, .long ((sRo.1 2).toInt64)]) (rest := [.int x5, .ref (hPl 1)]) ⟨hx, hb, hml, hown, hts⟩ (c_X4_spend l D K F (hPl 1) 41 (sPl.2.2.2 1) x5 (fq0 x5.toNatClampNeg) x4.toInt64 ((sRo.1 2).toInt64) o5 go5) (va_cwS 5 hts (gcS_X4_spend (mB33 _ (List.mem_of_getElem? (i := 0) rfl))) rfl rfl rfl hdS_X4_spend ⟨Nat.le_of_ble_eq_true rfl, Nat.le_of_ble_eq_true rfl⟩) hK hP hS (va_Psel hP [2] rfl) rfl hl.1 rfl (Nat.le_of_ble_eq_true rfl) dX6_buyBest_64 ⟨Nat.zero_le _, Nat.zero_le _⟩ (fun H locs hP hS => ?_)
        obtain ⟨g6, hf⟩ := gd_s hf
        refine va_last hx hb hK hP hD hS 2 1 (f := sPl.2.2.2 1) (rwl (rwl a_Pl_1)) rfl (vpb_in g6) dX6_buyBest_67 (fun H locs hP hD hS => ?_)
        have hP := cvP (stl (stl sa_Pl_1 (rlt a_Pl_1)) (rlt (rwl a_Pl_1))) hP
        have hD := cvD (stl (stl sa_Pl_1 (rlt a_Pl_1)) (rlt (rwl a_Pl_1))) hD
        obtain ⟨s7, es7⟩ : ∃ z, z = sB sPl 1 x5.toNatClampNeg o5 := ⟨_, rfl⟩
        have hP : va_P D vwCl (wPl K hPl gPl2 gPl3 s7 ++ wRo K hRo sRo ++ wAI K aq0 nq0 fq0) H := by rw [es7]; exact hP
        have hD : va_D A (wPl K hPl gPl2 gPl3 s7 ++ wRo K hRo sRo ++ wAI K aq0 nq0 fq0) := by rw [es7]; exact hD
        have hf := lz_s hf s7 es7
        obtain ⟨v8, ev8⟩ : ∃ z : Int32, z = x5 + (1 : Int32) := ⟨_, rfl⟩
        have hf := lz_s hf v8 ev8
        refine lv_iinc (v := v8) (lv' := [(5, .int v8), (0, .ref (hPl 99)), (1, .ref (hRo 99)), (3, .ref aq0), (4, .int x4)]) hx hb dX6_buyBest_68 hl (k := 4) rfl (by rw [ev8]; rfl) (by decide) rfl (fun ls hl => ?_)
        refine lv_goto (tgt := 31) hx hb dX6_buyBest_71 (by decide) ?_
        exact ih x4 v8 s7 fq0 H locs ls hf hP hD hS (lv_sub hl [1, 2, 3, 4, 0] rfl)
  have hen : entryFrame m args 6 = entryFrame m (([.ref (hPl 99), .ref (hRo 99), .int p2, .ref aq0] : List Value).toArray) 6 := by rw [hargs]
  have hl := lv_entry ([.ref (hPl 99), .ref (hRo 99), .int p2, .ref aq0]) (n := 6) (Nat.le_of_ble_eq_true rfl)
  rw [hen, lg_entry_eq]
  generalize (lg_sl ([.ref (hPl 99), .ref (hRo 99), .int p2, .ref aq0]) ++ List.replicate (6 - (lg_sl ([.ref (hPl 99), .ref (hRo 99), .int p2, .ref aq0])).length) Slot.unset).toArray = ls at hl ⊢
  have hl : lv_has ls 6 [(0, .ref (hPl 99)), (1, .ref (hRo 99)), (2, .int p2), (3, .ref aq0)] := hl
  unfold f_X6_buyBest at hf
  obtain ⟨H, hHe⟩ : ∃ z, z = s.heap := ⟨_, rfl⟩
  obtain ⟨locs, hLe⟩ : ∃ z : List Loc, z = [] := ⟨_, rfl⟩
  rw [← hLe]
  have hS : va_S A s.heap H locs := by rw [hHe, hLe]; exact hS
  have hP : va_P D vwCl (wPl K hPl gPl2 gPl3 sPl ++ wRo K hRo sRo ++ wAI K aq0 nq0 fq0) H := by rw [hHe]; exact hP
  have hgo : W p l e (headSpec wz_X6_buyBest r_X6_buyBest).room s m args below meth c H locs 0 0 Q (F0 m 0 ls []) := by
    refine lv_aload_n hx hb dX6_buyBest_0 rfl (lv_at hl 1 rfl) ?_
    refine lv_iload_n hx hb dX6_buyBest_1 rfl (lv_at hl 2 rfl) ?_
    refine lv_iconst (v := (0 : Int32)) hx hb dX6_buyBest_2 (by decide) ?_
    obtain ⟨o1, go1, hf⟩ := bd_s hf
    refine ro_Vi (As := [.int p2, .int (0 : Int32)]) (rest := []) ⟨hx, hb, hml, hown, hts⟩ (c_X9_priceAt l D K F hRo sRo p2 (0 : Int32) o1 go1) (cwV 2 hts (gcV_X9_priceAt (mB31 _ (List.mem_of_getElem? (i := 13) rfl))) rfl rfl rfl hdV_X9_priceAt ⟨Nat.le_of_ble_eq_true rfl, Nat.le_of_ble_eq_true rfl⟩) hK hP hS (va_PL (cs := [wPl K hPl gPl2 gPl3 sPl, wRo K hRo sRo, wAI K aq0 nq0 fq0]) (cc := [wRo K hRo sRo]) hP (fl3 _ _ _) [1] rfl (fl1 _)) (va_recv hK hP (ci := 8) (q0 := (5 + 0)) rfl (rwl (rwr ln_Pl o_Ro))) rfl hl.1 rfl (Nat.le_of_ble_eq_true rfl) dX6_buyBest_3 ⟨Nat.zero_le _, Nat.zero_le _⟩ (fun H locs hP hS => ?_)
    refine lv_istore (lv' := [(4, .int o1), (0, .ref (hPl 99)), (1, .ref (hRo 99)), (2, .int p2), (3, .ref aq0)]) hx hb dX6_buyBest_6 hl (by decide) rfl (fun ls hl => ?_)
    refine lv_aload_n hx hb dX6_buyBest_8 rfl (lv_at hl 1 rfl) ?_
    refine va_get (D := D) (ci := 5) (v := .ref (hPl 1)) (C := RX6) (T := TX6) (N := 4) hx hb hts iX6 hown hK hP 0 (rwl (rwl o_Pl)) rfl 1 (by decide) (htl _ (mB4 _ (List.mem_of_getElem? (i := 1) rfl))) (fun _ h9 => h9) rfl dX6_buyBest_9 ?_
    refine lv_aload_n hx hb dX6_buyBest_12 rfl (lv_at hl 2 rfl) ?_
    refine va_get (D := D) (ci := 8) (v := .int (sRo.1 0)) (C := RX9) (T := TX9) (N := 19) hx hb hts iX9 hown hK hP (5 + 0) (rwl (rwr ln_Pl o_Ro)) rfl 0 (by decide) (htl _ (mB30 _ (List.mem_of_getElem? (i := 7) rfl))) (fun _ h9 => h9) rfl dX6_buyBest_13 ?_
    refine lv_iload hx hb dX6_buyBest_16 (lv_at hl 0 rfl) ?_
    refine lv_i2l (v := o1.toInt64) hx hb dX6_buyBest_18 rfl ?_
    refine lv_aload_n hx hb dX6_buyBest_19 rfl (lv_at hl 2 rfl) ?_
    refine va_get (D := D) (ci := 8) (v := .int (sRo.1 2)) (C := RX9) (T := TX9) (N := 19) hx hb hts iX9 hown hK hP (5 + 0) (rwl (rwr ln_Pl o_Ro)) rfl 2 (by decide) (htl _ (mB31 _ (List.mem_of_getElem? (i := 12) rfl))) (fun _ h9 => h9) rfl dX6_buyBest_20 ?_
    refine lv_i2l (v := (sRo.1 2).toInt64) hx hb dX6_buyBest_23 rfl ?_
    refine lv_aload_n hx hb dX6_buyBest_24 rfl (lv_at hl 4 rfl) ?_
    obtain ⟨o2, go2, hf⟩ := bd_s hf
    refine rw_Sv (wn := wPl K hPl gPl2 gPl3 sPl ++ wRo K hRo sRo ++ wAI K aq0 nq0 o2) (As := [.ref (hPl 1), .int (sRo.1 0), .long o1.toInt64, .long ((sRo.1 2).toInt64), .ref aq0]) (rest := []) ⟨hx, hb, hml, hown, hts⟩ (c_X4_choose l D K F (hPl 1) 41 aq0 nq0 H.size (sPl.2.2.2 1) fq0 (sRo.1 0) o1.toInt64 ((sRo.1 2).toInt64) o2 go2) (va_cwS 5 hts (gcS_X4_choose (mB32 _ (List.mem_of_getElem? (i := 21) rfl))) rfl rfl rfl hdS_X4_choose ⟨Nat.le_of_ble_eq_true rfl, Nat.le_of_ble_eq_true rfl⟩) hK hP hD hS hA [2, 15] [0, 1, 3, 4, 5, 6, 7, 8, 9, 10, 11, 12, 13, 14] [0, 1, 14, 2, 3, 4, 5, 6, 7, 8, 9, 10, 11, 12, 13, 15] rfl rfl (by decide +kernel) (by decide +kernel) (by decide +kernel) rfl (by decide +kernel) rfl hl.1 rfl (Nat.le_of_ble_eq_true rfl) dX6_buyBest_25 ⟨Nat.zero_le _, Nat.zero_le _⟩ (fun H locs hP hD hS => ?_)
    have hP : va_P D vwCl (wPl K hPl gPl2 gPl3 sPl ++ wRo K hRo sRo ++ wAI K aq0 nq0 o2) H := hP
    have hD : va_D A (wPl K hPl gPl2 gPl3 sPl ++ wRo K hRo sRo ++ wAI K aq0 nq0 o2) := hD
    refine lv_iconst (v := (0 : Int32)) hx hb dX6_buyBest_28 (by decide) ?_
    refine lv_istore (lv' := [(5, .int (0 : Int32)), (4, .int o1), (0, .ref (hPl 99)), (1, .ref (hRo 99)), (2, .int p2), (3, .ref aq0)]) hx hb dX6_buyBest_29 hl (by decide) rfl (fun ls hl => ?_)
    exact w31 F o1 (0 : Int32) sPl o2 H locs ls hf hP hD hS (lv_sub hl [2, 3, 5, 1, 0] rfl)
  rw [hHe] at hgo
  exact hgo

def wz_X6_buyNothing : List Cond := .code yX6_buyNothing cX6_buyNothing 2 none :: wsL_law
abbrev r_X6_buyNothing : Room := { frames := 0, cells := 0, slots := 0, locals := 0 }
set_option maxHeartbeats 4000000 in
set_option maxRecDepth 100000 in
theorem c_X6_buyNothing (l : Launch) (D : va_G) (K : Nat → ClassId) (F : Nat) (aq0 nq0 : Nat) (sz : Nat) (fq0 : (Nat → Int32)) (res : (Nat → Int32)) (hf : f_X6_buyNothing F nq0 fq0 = some res) : Met l yX6_buyNothing wz_X6_buyNothing r_X6_buyNothing (va_Pc [.ref aq0] (PW D K (wAI K aq0 nq0 fq0) sz)) (va_Qv (fun u => u = res) (fun u t => BW D K (va_A (wAI K aq0 nq0 fq0) sz) (wAI K aq0 nq0 u) t) (va_A (wAI K aq0 nq0 fq0) sz)) 0 0 (va_A (wAI K aq0 nq0 fq0) sz) := by
  refine Met.ofW (cc := cX6_buyNothing) (maxL := 2) (ret := none) (by decide) rfl ?_
  intro p e s m args below meth c s₁ B hml hv
  obtain ⟨hargs, hsz, hP, hK, hD0⟩ := hv
  have hx := B.exec
  have hb := B.bytes
  have hr := B.returns
  have hts := atoms_spec (ws := wz_X6_buyNothing) B.pre
  have htl : ∀ w ∈ wsL_law, w.before args s = true := fun w h => hts w (List.mem_cons_of_mem _ h)
  have hown : s.vm.findClass RX6 = some m.cls := findClass_of_methodNamed B.named
  have hlocks := B.notSynchronized
  subst hsz
  have hD := hD0.self (sz := s.heap.size)
  generalize hAe : va_A (wAI K aq0 nq0 fq0) s.heap.size = A at hD ⊢
  have hA : ∀ q : Nat, s.heap.size ≤ q → A q := fun q h => by rw [← hAe]; exact Or.inr h
  have hS : va_S A s.heap s.heap [] := va_S.rf
  suffices hgo : ∀ Q : State → Prop, Q = MQ below (va_Qv (fun u => u = res) (fun u t => BW D K A (wAI K aq0 nq0 u) t) A) args s 0 0 A → W p l e (headSpec wz_X6_buyNothing r_X6_buyNothing).room s m args below meth c s.heap [] 0 0 Q (entryFrame m args 2) from hgo _ rfl
  intro Q hQ
  have w2 : ∀ (n : Nat), ∀ (x1 : Int32), ∀ (fq0 : (Nat → Int32)), ∀ (H : Heap) (locs : List Loc) (ls : Array Slot), f_X6_buyNothing_2 F nq0 n x1 fq0 = some res → va_P D vwCl (wAI K aq0 nq0 fq0) H → va_D A (wAI K aq0 nq0 fq0) → va_S A s.heap H locs → lv_has ls 2 [(0, .ref aq0), (1, .int x1)] → W p l e (headSpec wz_X6_buyNothing r_X6_buyNothing).room s m args below meth c H locs 0 0 Q (F0 m 2 ls []) := by
    intro n
    induction n with
    | zero =>
      intro x1 fq0 H locs ls hf
      exact absurd (show none = some res from hf) (fun h => nomatch h)
    | succ n ih =>
      intro x1 fq0 H locs ls hf hP hD hS hl
      rw [f_X6_buyNothing_2] at hf
      refine lv_iload_n hx hb dX6_buyNothing_2 rfl (lv_at hl 1 rfl) ?_
      refine lv_aload_n hx hb dX6_buyNothing_3 rfl (lv_at hl 0 rfl) ?_
      refine va_alen hx hb hK hP 0 0 (v := (Int32.ofNat nq0)) o_AI rfl rfl dX6_buyNothing_4 ?_
      refine lv_icmp_ge (tgt := 18) hx hb dX6_buyNothing_5 (by decide) (fun c1 => ?_) (fun c1 => ?_)
      · have hf := it_t hf c1
        have e9 := Option.some.inj hf
        rw [hQ]
        exact W.vret hx hb hr (fun t ht hW => ⟨⟨fq0, rfl, e9, ⟨by rw [ht]; exact hP, va_K.moved hW.alike hK, hD⟩⟩, hS.F ht⟩) hS.2.2 dX6_buyNothing_18
      · have hf := it_f hf c1
        refine lv_aload_n hx hb dX6_buyNothing_8 rfl (lv_at hl 0 rfl) ?_
        refine lv_iload_n hx hb dX6_buyNothing_9 rfl (lv_at hl 1 rfl) ?_
        refine lv_iload_n hx hb dX6_buyNothing_10 rfl (lv_at hl 1 rfl) ?_
        obtain ⟨g2, hf⟩ := gd_s hf
        refine va_iast hx hb hK hP hD hS 0 0 (f := fq0) o_AI rfl (vpb_in g2) dX6_buyNothing_11 (fun H locs hP hD hS => ?_)
        have hP := cvP s_AI hP
        have hD := cvD s_AI hD
        obtain ⟨g3, eg3⟩ : ∃ z, z = upd fq0 x1.toNatClampNeg x1 := ⟨_, rfl⟩
        have hP : va_P D vwCl (wAI K aq0 nq0 g3) H := by rw [eg3]; exact hP
        have hD : va_D A (wAI K aq0 nq0 g3) := by rw [eg3]; exact hD
        have hf := lz_s hf g3 eg3
        obtain ⟨v4, ev4⟩ : ∃ z : Int32, z = x1 + (1 : Int32) := ⟨_, rfl⟩
        have hf := lz_s hf v4 ev4
        refine lv_iinc (v := v4) (lv' := [(1, .int v4), (0, .ref aq0)]) hx hb dX6_buyNothing_12 hl (k := 1) rfl (by rw [ev4]; rfl) (by decide) rfl (fun ls hl => ?_)
        refine lv_goto (tgt := 2) hx hb dX6_buyNothing_15 (by decide) ?_
        exact ih v4 g3 H locs ls hf hP hD hS (lv_sub hl [1, 0] rfl)
  have hen : entryFrame m args 2 = entryFrame m (([.ref aq0] : List Value).toArray) 2 := by rw [hargs]
  have hl := lv_entry ([.ref aq0]) (n := 2) (Nat.le_of_ble_eq_true rfl)
  rw [hen, lg_entry_eq]
  generalize (lg_sl ([.ref aq0]) ++ List.replicate (2 - (lg_sl ([.ref aq0])).length) Slot.unset).toArray = ls at hl ⊢
  have hl : lv_has ls 2 [(0, .ref aq0)] := hl
  unfold f_X6_buyNothing at hf
  obtain ⟨H, hHe⟩ : ∃ z, z = s.heap := ⟨_, rfl⟩
  obtain ⟨locs, hLe⟩ : ∃ z : List Loc, z = [] := ⟨_, rfl⟩
  rw [← hLe]
  have hS : va_S A s.heap H locs := by rw [hHe, hLe]; exact hS
  have hP : va_P D vwCl (wAI K aq0 nq0 fq0) H := by rw [hHe]; exact hP
  have hgo : W p l e (headSpec wz_X6_buyNothing r_X6_buyNothing).room s m args below meth c H locs 0 0 Q (F0 m 0 ls []) := by
    refine lv_iconst (v := (0 : Int32)) hx hb dX6_buyNothing_0 (by decide) ?_
    refine lv_istore_n (lv' := [(1, .int (0 : Int32)), (0, .ref aq0)]) hx hb dX6_buyNothing_1 rfl hl (by decide) rfl (fun ls hl => ?_)
    exact w2 F (0 : Int32) fq0 H locs ls hf hP hD hS (lv_sub hl [1, 0] rfl)
  rw [hHe] at hgo
  exact hgo

theorem gcV_X6_buyBest {T0 : Cond} {own : String} {i : Nat} (h : Cond.methodLink own i yX6_buyBest ∈ wsL_law) : GoodIn (T0 :: wsL_law) (wsV own i RX6 yX6_buyBest wz_X6_buyBest) := gV h (mB32 _ (List.mem_of_getElem? (i := 18) rfl)) (mB32 _ (List.mem_of_getElem? (i := 19) rfl)) (mB2 _ (List.mem_of_getElem? (i := 2) rfl)) (mB32 _ (List.mem_of_getElem? (i := 20) rfl))
theorem hdV_X6_buyBest : yX6_buyBest.cls = RX6 ∧ yX6_buyBest.cls ≠ "java/lang/invoke/MethodHandle" ∧ yX6_buyBest.cls ≠ "java/lang/invoke/VarHandle" ∧ (parseMethodDescriptor yX6_buyBest.desc).map (fun d => d.parameters.length) = some 3 := by decide +kernel
theorem gcS_X6_buyNothing {T0 : Cond} {own : String} {i : Nat} (h : Cond.methodLink own i yX6_buyNothing ∈ wsL_law) : GoodIn (T0 :: wsL_law) (va_wsS own i yX6_buyNothing wz_X6_buyNothing) := gS h (mB33 _ (List.mem_of_getElem? (i := 4) rfl)) (mB2 _ (List.mem_of_getElem? (i := 2) rfl)) (mB33 _ (List.mem_of_getElem? (i := 5) rfl))
theorem hdS_X6_buyNothing : yX6_buyNothing.cls ≠ "java/lang/invoke/MethodHandle" ∧ yX6_buyNothing.cls ≠ "java/lang/invoke/VarHandle" ∧ (parseMethodDescriptor yX6_buyNothing.desc).map (fun d => d.parameters.length) = some 1 := by decide +kernel
def wz_X6_look : List Cond := .code yX6_look cX6_look 5 none :: wsL_law
abbrev r_X6_look : Room := { frames := 2, cells := 0, slots := 0, locals := 55 }
set_option maxHeartbeats 4000000 in
set_option maxRecDepth 100000 in
theorem c_X6_look (l : Launch) (D : va_G) (K : Nat → ClassId) (F : Nat) (hPl : Nat → Nat) (gPl3 : Nat → Nat) (hPc : Nat → Nat) (hRo : Nat → Nat) (sz : Nat) (sPl : MS) (sPc : MS) (sRo : MS) (p2 : Int32) (res : MS × MS) (hf : f_X6_look F sRo p2 sPl sPc = some res) : Met l yX6_look wz_X6_look r_X6_look (va_Pc [.ref (hPl 99), .ref (hRo 99), .int p2] (PW D K (wPl K hPl hPc gPl3 sPl ++ wPc K hPc sPc ++ wRo K hRo sRo) sz)) (va_Qv (fun u => u = res) (fun u t => BW D K (va_A (wPl K hPl hPc gPl3 sPl ++ wPc K hPc sPc ++ wRo K hRo sRo) sz) (wPl K hPl hPc gPl3 u.1 ++ wPc K hPc u.2 ++ wRo K hRo sRo) t) (va_A (wPl K hPl hPc gPl3 sPl ++ wPc K hPc sPc ++ wRo K hRo sRo) sz)) 0 0 (va_A (wPl K hPl hPc gPl3 sPl ++ wPc K hPc sPc ++ wRo K hRo sRo) sz) := by
  refine Met.ofW (cc := cX6_look) (maxL := 5) (ret := none) (by decide) rfl ?_
  intro p e s m args below meth c s₁ B hml hv
  obtain ⟨hargs, hsz, hP, hK, hD0⟩ := hv
  have hx := B.exec
  have hb := B.bytes
  have hr := B.returns
  have hts := atoms_spec (ws := wz_X6_look) B.pre
  have htl : ∀ w ∈ wsL_law, w.before args s = true := fun w h => hts w (List.mem_cons_of_mem _ h)
  have hown : s.vm.findClass RX6 = some m.cls := findClass_of_methodNamed B.named
  have hlocks := B.notSynchronized
  subst hsz
  have hD := hD0.self (sz := s.heap.size)
  generalize hAe : va_A (wPl K hPl hPc gPl3 sPl ++ wPc K hPc sPc ++ wRo K hRo sRo) s.heap.size = A at hD ⊢
  have hA : ∀ q : Nat, s.heap.size ≤ q → A q := fun q h => by rw [← hAe]; exact Or.inr h
  have hS : va_S A s.heap s.heap [] := va_S.rf
  have iX6 : ∀ w ∈ wsX60, w ∈ wz_X6_look := fun w h => List.mem_cons_of_mem _ (inlX6 w h)
  have iX9 : ∀ w ∈ wsX90, w ∈ wz_X6_look := fun w h => List.mem_cons_of_mem _ (inlX9 w h)
  suffices hgo : ∀ Q : State → Prop, Q = MQ below (va_Qv (fun u => u = res) (fun u t => BW D K A (wPl K hPl hPc gPl3 u.1 ++ wPc K hPc u.2 ++ wRo K hRo sRo) t) A) args s 0 0 A → W p l e (headSpec wz_X6_look r_X6_look).room s m args below meth c s.heap [] 0 0 Q (entryFrame m args 5) from hgo _ rfl
  intro Q hQ
  have w75 : ∀ (k15 : Int32 → MS → MS → Option (MS × MS)), (∀ (x3 : Int32), ∀ (sPl : MS), ∀ (sPc : MS), ∀ (H : Heap) (locs : List Loc) (ls : Array Slot), k15 x3 sPl sPc = some res → va_P D vwCl (wPl K hPl hPc gPl3 sPl ++ wPc K hPc sPc ++ wRo K hRo sRo) H → va_D A (wPl K hPl hPc gPl3 sPl ++ wPc K hPc sPc ++ wRo K hRo sRo) → va_S A s.heap H locs → lv_has ls 5 [(0, .ref (hPl 99)), (1, .ref (hRo 99)), (2, .int p2), (3, .int x3)] → W p l e (headSpec wz_X6_look r_X6_look).room s m args below meth c H locs 0 0 Q (F0 m 15 ls [])) → ∀ (x3 : Int32), ∀ (sPl : MS), ∀ (sPc : MS), ∀ (H : Heap) (locs : List Loc) (ls : Array Slot), f_X6_look_75 F sRo p2 k15 x3 sPl sPc = some res → va_P D vwCl (wPl K hPl hPc gPl3 sPl ++ wPc K hPc sPc ++ wRo K hRo sRo) H → va_D A (wPl K hPl hPc gPl3 sPl ++ wPc K hPc sPc ++ wRo K hRo sRo) → va_S A s.heap H locs → lv_has ls 5 [(0, .ref (hPl 99)), (1, .ref (hRo 99)), (2, .int p2), (3, .int x3)] → W p l e (headSpec wz_X6_look r_X6_look).room s m args below meth c H locs 0 0 Q (F0 m 75 ls []) := by
    intro k15 hk15 x3 sPl sPc H locs ls hf hP hD hS hl
    unfold f_X6_look_75 at hf
    obtain ⟨v17, ev17⟩ : ∃ z : Int32, z = x3 + (-1 : Int32) := ⟨_, rfl⟩
    have hf := lz_s hf v17 ev17
    refine lv_iinc (v := v17) (lv' := [(3, .int v17), (0, .ref (hPl 99)), (1, .ref (hRo 99)), (2, .int p2)]) hx hb dX6_look_75 hl (k := 3) rfl (by rw [ev17]; rfl) (by decide) rfl (fun ls hl => ?_)
    refine lv_goto (tgt := 15) hx hb dX6_look_78 (by decide) ?_
    exact hk15 v17 sPl sPc H locs ls hf hP hD hS (lv_sub hl [1, 2, 3, 0] rfl)
  have w70 : ∀ (k15 : Int32 → MS → MS → Option (MS × MS)), (∀ (x3 : Int32), ∀ (sPl : MS), ∀ (sPc : MS), ∀ (H : Heap) (locs : List Loc) (ls : Array Slot), k15 x3 sPl sPc = some res → va_P D vwCl (wPl K hPl hPc gPl3 sPl ++ wPc K hPc sPc ++ wRo K hRo sRo) H → va_D A (wPl K hPl hPc gPl3 sPl ++ wPc K hPc sPc ++ wRo K hRo sRo) → va_S A s.heap H locs → lv_has ls 5 [(0, .ref (hPl 99)), (1, .ref (hRo 99)), (2, .int p2), (3, .int x3)] → W p l e (headSpec wz_X6_look r_X6_look).room s m args below meth c H locs 0 0 Q (F0 m 15 ls [])) → ∀ (x3 : Int32), ∀ (sPl : MS), ∀ (sPc : MS), ∀ (H : Heap) (locs : List Loc) (ls : Array Slot), f_X6_look_70 F sRo p2 k15 x3 sPl sPc = some res → va_P D vwCl (wPl K hPl hPc gPl3 sPl ++ wPc K hPc sPc ++ wRo K hRo sRo) H → va_D A (wPl K hPl hPc gPl3 sPl ++ wPc K hPc sPc ++ wRo K hRo sRo) → va_S A s.heap H locs → lv_has ls 5 [(0, .ref (hPl 99)), (1, .ref (hRo 99)), (2, .int p2), (3, .int x3), (4, .ref (hPc x3.toNatClampNeg))] → W p l e (headSpec wz_X6_look r_X6_look).room s m args below meth c H locs 0 0 Q (F0 m 70 ls []) := by
    intro k15 hk15 x3 sPl sPc H locs ls hf hP hD hS hl
    unfold f_X6_look_70 at hf
    obtain ⟨g14, hf⟩ := gd_s hf
    refine lv_aload hx hb dX6_look_70 (lv_at hl 4 rfl) ?_
    obtain ⟨o15, go15, hf⟩ := bd_s hf
    refine rd_Sv (wn := wPl K hPl hPc gPl3 sPl ++ wPc K hPc (wA sPc x3.toNatClampNeg o15) ++ wRo K hRo sRo) (As := [.ref (hPc x3.toNatClampNeg)]) (rest := []) ⟨hx, hb, hml, hown, hts⟩ (c_X6_buyNothing l D K F (hPc x3.toNatClampNeg) 41 H.size (sPc.2.2.1 x3.toNatClampNeg) o15 go15) (va_cwS 1 hts (gcS_X6_buyNothing (mB33 _ (List.mem_of_getElem? (i := 3) rfl))) rfl rfl rfl hdS_X6_buyNothing ⟨Nat.le_of_ble_eq_true rfl, Nat.le_of_ble_eq_true rfl⟩) hK hP hD hS hA ([(5 + x3.toNatClampNeg)]) (map1 (rwl (rwr (n := 5) rfl (wPc_r x3.toNatClampNeg (vpb_lt g14))))) ((show ∀ j9, j9 < 9 → va_nd ([(5 + j9)]) = true by decide) _ (vpb_lt g14)) rfl (show (wPl K hPl hPc gPl3 sPl ++ wPc K hPc sPc ++ wRo K hRo sRo).set (5 + x3.toNatClampNeg) (hPc x3.toNatClampNeg, .inl (K 0, 41, .inl o15)) = _ from stl (str (n := 5) rfl (wPc_w x3.toNatClampNeg (vpb_lt g14))) (rlt (rwr (n := 5) rfl (wPc_r x3.toNatClampNeg (vpb_lt g14))))) rfl hl.1 rfl (Nat.le_of_ble_eq_true rfl) dX6_look_72 ⟨Nat.zero_le _, Nat.zero_le _⟩ (fun H locs hP hD hS => ?_)
    obtain ⟨s16, es16⟩ : ∃ z, z = (wA sPc x3.toNatClampNeg o15) := ⟨_, rfl⟩
    have hP : va_P D vwCl (wPl K hPl hPc gPl3 sPl ++ wPc K hPc s16 ++ wRo K hRo sRo) H := by rw [es16]; exact hP
    have hD : va_D A (wPl K hPl hPc gPl3 sPl ++ wPc K hPc s16 ++ wRo K hRo sRo) := by rw [es16]; exact hD
    have hf := lz_s hf s16 es16
    exact w75 k15 hk15 x3 sPl s16 H locs ls hf hP hD hS (lv_sub hl [0, 1, 2, 3] rfl)
  have w15 : ∀ (n : Nat), ∀ (x3 : Int32), ∀ (sPl : MS), ∀ (sPc : MS), ∀ (H : Heap) (locs : List Loc) (ls : Array Slot), f_X6_look_15 F sRo p2 n x3 sPl sPc = some res → va_P D vwCl (wPl K hPl hPc gPl3 sPl ++ wPc K hPc sPc ++ wRo K hRo sRo) H → va_D A (wPl K hPl hPc gPl3 sPl ++ wPc K hPc sPc ++ wRo K hRo sRo) → va_S A s.heap H locs → lv_has ls 5 [(0, .ref (hPl 99)), (1, .ref (hRo 99)), (2, .int p2), (3, .int x3)] → W p l e (headSpec wz_X6_look r_X6_look).room s m args below meth c H locs 0 0 Q (F0 m 15 ls []) := by
    intro n
    induction n with
    | zero =>
      intro x3 sPl sPc H locs ls hf
      exact absurd (show none = some res from hf) (fun h => nomatch h)
    | succ n ih =>
      intro x3 sPl sPc H locs ls hf hP hD hS hl
      rw [f_X6_look_15] at hf
      refine lv_iload_n hx hb dX6_look_15 rfl (lv_at hl 3 rfl) ?_
      refine lv_if_lt (tgt := 81) hx hb dX6_look_16 (by decide) (fun c4 => ?_) (fun c4 => ?_)
      · have hf := it_t hf c4
        have e9 := Option.some.inj hf
        rw [hQ]
        exact W.vret hx hb hr (fun t ht hW => ⟨⟨(sPl, sPc), rfl, e9, ⟨by rw [ht]; exact hP, va_K.moved hW.alike hK, hD⟩⟩, hS.F ht⟩) hS.2.2 dX6_look_81
      · have hf := it_f hf c4
        refine lv_aload_n hx hb dX6_look_19 rfl (lv_at hl 0 rfl) ?_
        refine va_get (D := D) (ci := 5) (v := .ref (hPl 1)) (C := RX6) (T := TX6) (N := 4) hx hb hts iX6 hown hK hP 0 (rwl (rwl o_Pl)) rfl 1 (by decide) (htl _ (mB4 _ (List.mem_of_getElem? (i := 1) rfl))) (fun _ h9 => h9) rfl dX6_look_20 ?_
        refine lv_aload_n hx hb dX6_look_23 rfl (lv_at hl 1 rfl) ?_
        refine va_get (D := D) (ci := 8) (v := .int (sRo.1 0)) (C := RX9) (T := TX9) (N := 19) hx hb hts iX9 hown hK hP ((5 + 9) + 0) (rwr (lnA ln_Pl ln_Pc) o_Ro) rfl 0 (by decide) (htl _ (mB30 _ (List.mem_of_getElem? (i := 7) rfl))) (fun _ h9 => h9) rfl dX6_look_24 ?_
        refine lv_aload_n hx hb dX6_look_27 rfl (lv_at hl 1 rfl) ?_
        refine lv_iload_n hx hb dX6_look_28 rfl (lv_at hl 3 rfl) ?_
        obtain ⟨o5, go5, hf⟩ := bd_s hf
        refine ro_Vi (As := [.int x3]) (rest := [.int (sRo.1 0), .ref (hPl 1)]) ⟨hx, hb, hml, hown, hts⟩ (c_X9_legPints l D K F hRo sRo x3 o5 go5) (cwV 1 hts (gcV_X9_legPints (mB30 _ (List.mem_of_getElem? (i := 12) rfl))) rfl rfl rfl hdV_X9_legPints ⟨Nat.le_of_ble_eq_true rfl, Nat.le_of_ble_eq_true rfl⟩) hK hP hS (va_PL (cs := [wPl K hPl hPc gPl3 sPl, wPc K hPc sPc, wRo K hRo sRo]) (cc := [wRo K hRo sRo]) hP (fl3 _ _ _) [2] rfl (fl1 _)) (va_recv hK hP (ci := 8) (q0 := ((5 + 9) + 0)) rfl (rwr (lnA ln_Pl ln_Pc) o_Ro)) rfl hl.1 rfl (Nat.le_of_ble_eq_true rfl) dX6_look_29 ⟨Nat.zero_le _, Nat.zero_le _⟩ (fun H locs hP hS => ?_)
        refine lv_ldc2 (v := (1099511627776 : Int64)) hx hb hown (htl _ (mB32 _ (List.mem_of_getElem? (i := 9) rfl))) dX6_look_32 ?_
        obtain ⟨o6, go6, hf⟩ := bd_s hf
        refine rw_Sv (wn := wPl K hPl hPc gPl3 (wB sPl 1 o6) ++ wPc K hPc sPc ++ wRo K hRo sRo) (As := [.ref (hPl 1), .int (sRo.1 0), .int o5, .long (1099511627776 : Int64)]) (rest := []) ⟨hx, hb, hml, hown, hts⟩ (c_X4_leave l D K F (hPl 1) 41 H.size (sPl.2.2.2 1) (sRo.1 0) o5 (1099511627776 : Int64) o6 go6) (va_cwS 4 hts (gcS_X4_leave (mB32 _ (List.mem_of_getElem? (i := 13) rfl))) rfl rfl rfl hdS_X4_leave ⟨Nat.le_of_ble_eq_true rfl, Nat.le_of_ble_eq_true rfl⟩) hK hP hD hS hA [2] [0, 1, 3, 4, 5, 6, 7, 8, 9, 10, 11, 12, 13, 14, 15, 16, 17, 18, 19, 20, 21, 22, 23] [0, 1, 23, 2, 3, 4, 5, 6, 7, 8, 9, 10, 11, 12, 13, 14, 15, 16, 17, 18, 19, 20, 21, 22] rfl rfl (by decide +kernel) (by decide +kernel) (by decide +kernel) rfl (by decide +kernel) rfl hl.1 rfl (Nat.le_of_ble_eq_true rfl) dX6_look_35 ⟨Nat.zero_le _, Nat.zero_le _⟩ (fun H locs hP hD hS => ?_)
        have hP : va_P D vwCl (wPl K hPl hPc gPl3 (wB sPl 1 o6) ++ wPc K hPc sPc ++ wRo K hRo sRo) H := hP
        have hD : va_D A (wPl K hPl hPc gPl3 (wB sPl 1 o6) ++ wPc K hPc sPc ++ wRo K hRo sRo) := hD
        obtain ⟨s7, es7⟩ : ∃ z, z = (wB sPl 1 o6) := ⟨_, rfl⟩
        have hP : va_P D vwCl (wPl K hPl hPc gPl3 s7 ++ wPc K hPc sPc ++ wRo K hRo sRo) H := by rw [es7]; exact hP
        have hD : va_D A (wPl K hPl hPc gPl3 s7 ++ wPc K hPc sPc ++ wRo K hRo sRo) := by rw [es7]; exact hD
        have hf := lz_s hf s7 es7
        refine lv_aload_n hx hb dX6_look_38 rfl (lv_at hl 0 rfl) ?_
        refine va_get (D := D) (ci := 5) (v := .ref (hPl 2)) (C := RX6) (T := TX6) (N := 4) hx hb hts iX6 hown hK hP 0 (rwl (rwl o_Pl)) rfl 2 (by decide) (htl _ (mB4 _ (List.mem_of_getElem? (i := 3) rfl))) (fun _ h9 => h9) rfl dX6_look_39 ?_
        refine lv_iload_n hx hb dX6_look_42 rfl (lv_at hl 3 rfl) ?_
        obtain ⟨g8, hf⟩ := gd_s hf
        refine va_ald2 (r := hPc x3.toNatClampNeg) hx hb hK hP 3 3 (rwl (rwl a_Pl_2)) rfl (vpb_in g8) (if_pos (vpb_lt g8)) dX6_look_43 ?_
        refine lv_astore (lv' := [(4, .ref (hPc x3.toNatClampNeg)), (0, .ref (hPl 99)), (1, .ref (hRo 99)), (2, .int p2), (3, .int x3)]) hx hb dX6_look_44 hl (by decide) rfl (fun ls hl => ?_)
        refine lv_iload_n hx hb dX6_look_46 rfl (lv_at hl 4 rfl) ?_
        refine lv_iload_n hx hb dX6_look_47 rfl (lv_at hl 3 rfl) ?_
        refine lv_icmp_eq (tgt := 70) hx hb dX6_look_48 (by decide) (fun c9 => ?_) (fun c9 => ?_)
        · have hf := it_t hf c9
          exact w70 (f_X6_look_15 F sRo p2 n) ih x3 s7 sPc H locs ls hf hP hD hS (lv_sub hl [1, 2, 3, 4, 0] rfl)
        · have hf := it_f hf c9
          refine lv_aload_n hx hb dX6_look_51 rfl (lv_at hl 2 rfl) ?_
          refine lv_iload_n hx hb dX6_look_52 rfl (lv_at hl 4 rfl) ?_
          obtain ⟨o10, go10, hf⟩ := bd_s hf
          refine ro_Vi (As := [.int x3]) (rest := []) ⟨hx, hb, hml, hown, hts⟩ (c_X9_hasPumpAt l D K F hRo sRo x3 o10 go10) (cwV 1 hts (gcV_X9_hasPumpAt (mB30 _ (List.mem_of_getElem? (i := 8) rfl))) rfl rfl rfl hdV_X9_hasPumpAt ⟨Nat.le_of_ble_eq_true rfl, Nat.le_of_ble_eq_true rfl⟩) hK hP hS (va_PL (cs := [wPl K hPl hPc gPl3 s7, wPc K hPc sPc, wRo K hRo sRo]) (cc := [wRo K hRo sRo]) hP (fl3 _ _ _) [2] rfl (fl1 _)) (va_recv hK hP (ci := 8) (q0 := ((5 + 9) + 0)) rfl (rwr (lnA ln_Pl ln_Pc) o_Ro)) rfl hl.1 rfl (Nat.le_of_ble_eq_true rfl) dX6_look_53 ⟨Nat.zero_le _, Nat.zero_le _⟩ (fun H locs hP hS => ?_)
          refine lv_if_eq (tgt := 70) hx hb dX6_look_56 (by decide) (fun c11 => ?_) (fun c11 => ?_)
          · have hf := it_t hf c11
            exact w70 (f_X6_look_15 F sRo p2 n) ih x3 s7 sPc H locs ls hf hP hD hS (lv_sub hl [1, 2, 3, 4, 0] rfl)
          · have hf := it_f hf c11
            refine lv_aload_n hx hb dX6_look_59 rfl (lv_at hl 1 rfl) ?_
            refine lv_aload_n hx hb dX6_look_60 rfl (lv_at hl 2 rfl) ?_
            refine lv_iload_n hx hb dX6_look_61 rfl (lv_at hl 4 rfl) ?_
            refine lv_aload hx hb dX6_look_62 (lv_at hl 0 rfl) ?_
            obtain ⟨o12, go12, hf⟩ := bd_s hf
            refine rd_Vv (wn := wPl K hPl hPc gPl3 o12.1 ++ wPc K hPc (wA sPc x3.toNatClampNeg o12.2) ++ wRo K hRo sRo) (As := [.ref (hRo 99), .int x3, .ref (hPc x3.toNatClampNeg)]) (rest := []) ⟨hx, hb, hml, hown, hts⟩ (c_X6_buyBest l D K F hPl hPc gPl3 hRo (hPc x3.toNatClampNeg) 41 H.size s7 sRo (sPc.2.2.1 x3.toNatClampNeg) x3 o12 go12) (cwV 3 hts (gcV_X6_buyBest (mB32 _ (List.mem_of_getElem? (i := 17) rfl))) rfl rfl rfl hdV_X6_buyBest ⟨Nat.le_of_ble_eq_true rfl, Nat.le_of_ble_eq_true rfl⟩) hK hP hD hS hA ([0, 1, 2, 3, 4] ++ [14, 15, 16, 17, 18, 19, 20, 21, 22, 23] ++ [(5 + x3.toNatClampNeg)]) (mapC (mapC rfl rfl) (map1 (rwl (rwr (n := 5) rfl (wPc_r x3.toNatClampNeg (vpb_lt g8)))))) ((show ∀ j9, j9 < 9 → va_nd ([0, 1, 2, 3, 4] ++ [14, 15, 16, 17, 18, 19, 20, 21, 22, 23] ++ [(5 + j9)]) = true by decide) _ (vpb_lt g8)) rfl (show (wPl K hPl hPc gPl3 o12.1 ++ wPc K hPc sPc ++ wRo K hRo sRo).set (5 + x3.toNatClampNeg) (hPc x3.toNatClampNeg, .inl (K 0, 41, .inl o12.2)) = _ from stl (str (n := 5) rfl (wPc_w x3.toNatClampNeg (vpb_lt g8))) (rlt (rwr (n := 5) rfl (wPc_r x3.toNatClampNeg (vpb_lt g8))))) (va_recv hK hP (ci := 5) (q0 := 0) rfl (rwl (rwl o_Pl))) rfl hl.1 rfl (Nat.le_of_ble_eq_true rfl) dX6_look_64 ⟨Nat.zero_le _, Nat.zero_le _⟩ (fun H locs hP hD hS => ?_)
            obtain ⟨s13, es13⟩ : ∃ z, z = (wA sPc x3.toNatClampNeg o12.2) := ⟨_, rfl⟩
            have hP : va_P D vwCl (wPl K hPl hPc gPl3 o12.1 ++ wPc K hPc s13 ++ wRo K hRo sRo) H := by rw [es13]; exact hP
            have hD : va_D A (wPl K hPl hPc gPl3 o12.1 ++ wPc K hPc s13 ++ wRo K hRo sRo) := by rw [es13]; exact hD
            have hf := lz_s hf s13 es13
            refine lv_goto (tgt := 75) hx hb dX6_look_67 (by decide) ?_
            exact w75 (f_X6_look_15 F sRo p2 n) ih x3 o12.1 s13 H locs ls hf hP hD hS (lv_sub hl [1, 2, 3, 4] rfl)
  have hen : entryFrame m args 5 = entryFrame m (([.ref (hPl 99), .ref (hRo 99), .int p2] : List Value).toArray) 5 := by rw [hargs]
  have hl := lv_entry ([.ref (hPl 99), .ref (hRo 99), .int p2]) (n := 5) (Nat.le_of_ble_eq_true rfl)
  rw [hen, lg_entry_eq]
  generalize (lg_sl ([.ref (hPl 99), .ref (hRo 99), .int p2]) ++ List.replicate (5 - (lg_sl ([.ref (hPl 99), .ref (hRo 99), .int p2])).length) Slot.unset).toArray = ls at hl ⊢
  have hl : lv_has ls 5 [(0, .ref (hPl 99)), (1, .ref (hRo 99)), (2, .int p2)] := hl
  unfold f_X6_look at hf
  obtain ⟨H, hHe⟩ : ∃ z, z = s.heap := ⟨_, rfl⟩
  obtain ⟨locs, hLe⟩ : ∃ z : List Loc, z = [] := ⟨_, rfl⟩
  rw [← hLe]
  have hS : va_S A s.heap H locs := by rw [hHe, hLe]; exact hS
  have hP : va_P D vwCl (wPl K hPl hPc gPl3 sPl ++ wPc K hPc sPc ++ wRo K hRo sRo) H := by rw [hHe]; exact hP
  have hgo : W p l e (headSpec wz_X6_look r_X6_look).room s m args below meth c H locs 0 0 Q (F0 m 0 ls []) := by
    refine lv_aload_n hx hb dX6_look_0 rfl (lv_at hl 0 rfl) ?_
    refine va_get (D := D) (ci := 5) (v := .ref (hPl 1)) (C := RX6) (T := TX6) (N := 4) hx hb hts iX6 hown hK hP 0 (rwl (rwl o_Pl)) rfl 1 (by decide) (htl _ (mB4 _ (List.mem_of_getElem? (i := 1) rfl))) (fun _ h9 => h9) rfl dX6_look_1 ?_
    refine lv_lconst (v := (0 : Int64)) hx hb dX6_look_4 (by decide) ?_
    obtain ⟨o1, go1, hf⟩ := bd_s hf
    refine rw_Sv (wn := wPl K hPl hPc gPl3 (wB sPl 1 o1) ++ wPc K hPc sPc ++ wRo K hRo sRo) (As := [.ref (hPl 1), .long (0 : Int64)]) (rest := []) ⟨hx, hb, hml, hown, hts⟩ (c_J7_fill_d0a16 l D K F (hPl 1) 41 H.size (sPl.2.2.2 1) (0 : Int64) o1 go1) (va_cwS 2 hts (gcS_J7_fill_d0a16 (mB32 _ (List.mem_of_getElem? (i := 10) rfl))) rfl rfl rfl hdS_J7_fill_d0a16 ⟨Nat.le_of_ble_eq_true rfl, Nat.le_of_ble_eq_true rfl⟩) hK hP hD hS hA [2] [0, 1, 3, 4, 5, 6, 7, 8, 9, 10, 11, 12, 13, 14, 15, 16, 17, 18, 19, 20, 21, 22, 23] [0, 1, 23, 2, 3, 4, 5, 6, 7, 8, 9, 10, 11, 12, 13, 14, 15, 16, 17, 18, 19, 20, 21, 22] rfl rfl (by decide +kernel) (by decide +kernel) (by decide +kernel) rfl (by decide +kernel) rfl hl.1 rfl (Nat.le_of_ble_eq_true rfl) dX6_look_5 ⟨Nat.zero_le _, Nat.zero_le _⟩ (fun H locs hP hD hS => ?_)
    have hP : va_P D vwCl (wPl K hPl hPc gPl3 (wB sPl 1 o1) ++ wPc K hPc sPc ++ wRo K hRo sRo) H := hP
    have hD : va_D A (wPl K hPl hPc gPl3 (wB sPl 1 o1) ++ wPc K hPc sPc ++ wRo K hRo sRo) := hD
    obtain ⟨s2, es2⟩ : ∃ z, z = (wB sPl 1 o1) := ⟨_, rfl⟩
    have hP : va_P D vwCl (wPl K hPl hPc gPl3 s2 ++ wPc K hPc sPc ++ wRo K hRo sRo) H := by rw [es2]; exact hP
    have hD : va_D A (wPl K hPl hPc gPl3 s2 ++ wPc K hPc sPc ++ wRo K hRo sRo) := by rw [es2]; exact hD
    have hf := lz_s hf s2 es2
    refine lv_aload_n hx hb dX6_look_8 rfl (lv_at hl 1 rfl) ?_
    refine va_get (D := D) (ci := 8) (v := .int (sRo.1 8)) (C := RX9) (T := TX9) (N := 19) hx hb hts iX9 hown hK hP ((5 + 9) + 0) (rwr (lnA ln_Pl ln_Pc) o_Ro) rfl 8 (by decide) (htl _ (mB30 _ (List.mem_of_getElem? (i := 6) rfl))) (fun _ h9 => h9) rfl dX6_look_9 ?_
    refine lv_iconst (v := (2 : Int32)) hx hb dX6_look_12 (by decide) ?_
    refine lv_isub hx hb dX6_look_13 ?_
    refine lv_topi (fun v3 ev3 => ?_)
    have hf := lz_s hf v3 ev3
    refine lv_istore_n (lv' := [(3, .int v3), (0, .ref (hPl 99)), (1, .ref (hRo 99)), (2, .int p2)]) hx hb dX6_look_14 rfl hl (by decide) rfl (fun ls hl => ?_)
    exact w15 F v3 s2 sPc H locs ls hf hP hD hS (lv_sub hl [1, 2, 3, 0] rfl)
  rw [hHe] at hgo
  exact hgo

def wz_X6_answer : List Cond := .code yX6_answer cX6_answer 2 (some .int) :: wsL_law
abbrev r_X6_answer : Room := { frames := 0, cells := 0, slots := 0, locals := 0 }
set_option maxHeartbeats 4000000 in
set_option maxRecDepth 100000 in
theorem c_X6_answer (l : Launch) (D : va_G) (K : Nat → ClassId) (F : Nat) (p0 : Int64) (res : Int32) (hf : f_X6_answer F p0 = some res) : Met l yX6_answer wz_X6_answer r_X6_answer (va_Pc [.long p0] (PR D K (([] : va_W)))) (va_Qi (fun r (_ : Unit) => r = res) BN nOne) 0 0 nOne := by
  refine Met.ofW (cc := cX6_answer) (maxL := 2) (ret := (some .int)) (by decide) rfl ?_
  intro p e s m args below meth c s₁ B hml hv
  obtain ⟨hargs, hP, hK⟩ := hv
  have hx := B.exec
  have hb := B.bytes
  have hr := B.returns
  have hts := atoms_spec (ws := wz_X6_answer) B.pre
  have htl : ∀ w ∈ wsL_law, w.before args s = true := fun w h => hts w (List.mem_cons_of_mem _ h)
  have hown : s.vm.findClass RX6 = some m.cls := findClass_of_methodNamed B.named
  have hlocks := B.notSynchronized
  have hS : va_S nOne s.heap s.heap [] := va_S.rf
  suffices hgo : ∀ Q : State → Prop, Q = MQ below (va_Qi (fun r (_ : Unit) => r = res) BN nOne) args s 0 0 nOne → W p l e (headSpec wz_X6_answer r_X6_answer).room s m args below meth c s.heap [] 0 0 Q (entryFrame m args 2) from hgo _ rfl
  intro Q hQ
  have hen : entryFrame m args 2 = entryFrame m (([.long p0] : List Value).toArray) 2 := by rw [hargs]
  have hl := lv_entry ([.long p0]) (n := 2) (Nat.le_of_ble_eq_true rfl)
  rw [hen, lg_entry_eq]
  generalize (lg_sl ([.long p0]) ++ List.replicate (2 - (lg_sl ([.long p0])).length) Slot.unset).toArray = ls at hl ⊢
  have hl : lv_has ls 2 [(0, .long p0)] := hl
  unfold f_X6_answer at hf
  obtain ⟨H, hHe⟩ : ∃ z, z = s.heap := ⟨_, rfl⟩
  obtain ⟨locs, hLe⟩ : ∃ z : List Loc, z = [] := ⟨_, rfl⟩
  rw [← hLe]
  have hS : va_S nOne s.heap H locs := by rw [hHe, hLe]; exact hS
  have hP : va_P D vwCl (([] : va_W)) H := by rw [hHe]; exact hP
  have hgo : W p l e (headSpec wz_X6_answer r_X6_answer).room s m args below meth c H locs 0 0 Q (F0 m 0 ls []) := by
    refine lv_lload_n hx hb dX6_answer_0 rfl (lv_at hl 0 rfl) ?_
    refine lv_ldc2 (v := (1099511627776 : Int64)) hx hb hown (htl _ (mB32 _ (List.mem_of_getElem? (i := 9) rfl))) dX6_answer_1 ?_
    refine W.lcmp hx hb dX6_answer_4 ?_
    refine lv_if_lt (tgt := 13) hx hb dX6_answer_5 (by decide) (fun c1 => ?_) (fun c1 => ?_)
    · have hf := it_t hf c1
      refine lv_lload_n hx hb dX6_answer_13 rfl (lv_at hl 0 rfl) ?_
      refine lv_l2i (v := p0.toInt32) hx hb dX6_answer_14 rfl ?_
      have e9 := Option.some.inj hf
      rw [hQ]
      exact W.iret (v := p0.toInt32) hx hb hr (fun t ht hW => ⟨⟨p0.toInt32, (), rfl, e9, trivial⟩, hS.F ht⟩) hS.2.2 dX6_answer_15
    · have hf := it_f hf c1
      refine lv_bipush (v := (-2 : Int32)) hx hb dX6_answer_8 (by decide) ?_
      refine lv_goto (tgt := 15) hx hb dX6_answer_10 (by decide) ?_
      have e9 := Option.some.inj hf
      rw [hQ]
      exact W.iret (v := (-2 : Int32)) hx hb hr (fun t ht hW => ⟨⟨(-2 : Int32), (), rfl, e9, trivial⟩, hS.F ht⟩) hS.2.2 dX6_answer_15
  rw [hHe] at hgo
  exact hgo

theorem gcV_X6_look {T0 : Cond} {own : String} {i : Nat} (h : Cond.methodLink own i yX6_look ∈ wsL_law) : GoodIn (T0 :: wsL_law) (wsV own i RX6 yX6_look wz_X6_look) := gV h (mB32 _ (List.mem_of_getElem? (i := 6) rfl)) (mB32 _ (List.mem_of_getElem? (i := 7) rfl)) (mB2 _ (List.mem_of_getElem? (i := 2) rfl)) (mB32 _ (List.mem_of_getElem? (i := 8) rfl))
theorem hdV_X6_look : yX6_look.cls = RX6 ∧ yX6_look.cls ≠ "java/lang/invoke/MethodHandle" ∧ yX6_look.cls ≠ "java/lang/invoke/VarHandle" ∧ (parseMethodDescriptor yX6_look.desc).map (fun d => d.parameters.length) = some 2 := by decide +kernel
theorem gcS_X6_answer {T0 : Cond} {own : String} {i : Nat} (h : Cond.methodLink own i yX6_answer ∈ wsL_law) : GoodIn (T0 :: wsL_law) (va_wsS own i yX6_answer wz_X6_answer) := gS h (mB33 _ (List.mem_of_getElem? (i := 7) rfl)) (mB2 _ (List.mem_of_getElem? (i := 2) rfl)) (mB33 _ (List.mem_of_getElem? (i := 8) rfl))
theorem hdS_X6_answer : yX6_answer.cls ≠ "java/lang/invoke/MethodHandle" ∧ yX6_answer.cls ≠ "java/lang/invoke/VarHandle" ∧ (parseMethodDescriptor yX6_answer.desc).map (fun d => d.parameters.length) = some 1 := by decide +kernel
def wz_X6_leastCost : List Cond := .code yX6_leastCost cX6_leastCost 3 (some .int) :: wsL_law
abbrev r_X6_leastCost : Room := { frames := 3, cells := 0, slots := 0, locals := 79 }
set_option maxHeartbeats 4000000 in
set_option maxRecDepth 100000 in
theorem c_X6_leastCost (l : Launch) (D : va_G) (K : Nat → ClassId) (F : Nat) (hPl : Nat → Nat) (gPl3 : Nat → Nat) (hPc : Nat → Nat) (hRo : Nat → Nat) (sz : Nat) (sPl : MS) (sPc : MS) (sRo : MS) (p2 : Int32) (res : Int32 × MS × MS) (hf : f_X6_leastCost F sRo p2 sPl sPc = some res) : Met l yX6_leastCost wz_X6_leastCost r_X6_leastCost (va_Pc [.ref (hPl 99), .ref (hRo 99), .int p2] (PW D K (wPl K hPl hPc gPl3 sPl ++ wPc K hPc sPc ++ wRo K hRo sRo) sz)) (va_Qi (fun r u => r = res.1 ∧ u = res.2) (fun u t => BW D K (va_A (wPl K hPl hPc gPl3 sPl ++ wPc K hPc sPc ++ wRo K hRo sRo) sz) (wPl K hPl hPc gPl3 u.1 ++ wPc K hPc u.2 ++ wRo K hRo sRo) t) (va_A (wPl K hPl hPc gPl3 sPl ++ wPc K hPc sPc ++ wRo K hRo sRo) sz)) 0 0 (va_A (wPl K hPl hPc gPl3 sPl ++ wPc K hPc sPc ++ wRo K hRo sRo) sz) := by
  refine Met.ofW (cc := cX6_leastCost) (maxL := 3) (ret := (some .int)) (by decide) rfl ?_
  intro p e s m args below meth c s₁ B hml hv
  obtain ⟨hargs, hsz, hP, hK, hD0⟩ := hv
  have hx := B.exec
  have hb := B.bytes
  have hr := B.returns
  have hts := atoms_spec (ws := wz_X6_leastCost) B.pre
  have htl : ∀ w ∈ wsL_law, w.before args s = true := fun w h => hts w (List.mem_cons_of_mem _ h)
  have hown : s.vm.findClass RX6 = some m.cls := findClass_of_methodNamed B.named
  have hlocks := B.notSynchronized
  subst hsz
  have hD := hD0.self (sz := s.heap.size)
  generalize hAe : va_A (wPl K hPl hPc gPl3 sPl ++ wPc K hPc sPc ++ wRo K hRo sRo) s.heap.size = A at hD ⊢
  have hA : ∀ q : Nat, s.heap.size ≤ q → A q := fun q h => by rw [← hAe]; exact Or.inr h
  have hS : va_S A s.heap s.heap [] := va_S.rf
  have iX6 : ∀ w ∈ wsX60, w ∈ wz_X6_leastCost := fun w h => List.mem_cons_of_mem _ (inlX6 w h)
  have iX9 : ∀ w ∈ wsX90, w ∈ wz_X6_leastCost := fun w h => List.mem_cons_of_mem _ (inlX9 w h)
  suffices hgo : ∀ Q : State → Prop, Q = MQ below (va_Qi (fun r u => r = res.1 ∧ u = res.2) (fun u t => BW D K A (wPl K hPl hPc gPl3 u.1 ++ wPc K hPc u.2 ++ wRo K hRo sRo) t) A) args s 0 0 A → W p l e (headSpec wz_X6_leastCost r_X6_leastCost).room s m args below meth c s.heap [] 0 0 Q (entryFrame m args 3) from hgo _ rfl
  intro Q hQ
  have hen : entryFrame m args 3 = entryFrame m (([.ref (hPl 99), .ref (hRo 99), .int p2] : List Value).toArray) 3 := by rw [hargs]
  have hl := lv_entry ([.ref (hPl 99), .ref (hRo 99), .int p2]) (n := 3) (Nat.le_of_ble_eq_true rfl)
  rw [hen, lg_entry_eq]
  generalize (lg_sl ([.ref (hPl 99), .ref (hRo 99), .int p2]) ++ List.replicate (3 - (lg_sl ([.ref (hPl 99), .ref (hRo 99), .int p2])).length) Slot.unset).toArray = ls at hl ⊢
  have hl : lv_has ls 3 [(0, .ref (hPl 99)), (1, .ref (hRo 99)), (2, .int p2)] := hl
  unfold f_X6_leastCost at hf
  obtain ⟨H, hHe⟩ : ∃ z, z = s.heap := ⟨_, rfl⟩
  obtain ⟨locs, hLe⟩ : ∃ z : List Loc, z = [] := ⟨_, rfl⟩
  rw [← hLe]
  have hS : va_S A s.heap H locs := by rw [hHe, hLe]; exact hS
  have hP : va_P D vwCl (wPl K hPl hPc gPl3 sPl ++ wPc K hPc sPc ++ wRo K hRo sRo) H := by rw [hHe]; exact hP
  have hgo : W p l e (headSpec wz_X6_leastCost r_X6_leastCost).room s m args below meth c H locs 0 0 Q (F0 m 0 ls []) := by
    refine lv_aload_n hx hb dX6_leastCost_0 rfl (lv_at hl 0 rfl) ?_
    refine lv_aload_n hx hb dX6_leastCost_1 rfl (lv_at hl 1 rfl) ?_
    refine lv_iload_n hx hb dX6_leastCost_2 rfl (lv_at hl 2 rfl) ?_
    obtain ⟨o1, go1, hf⟩ := bd_s hf
    refine rs_Vv (As := [.ref (hRo 99), .int p2]) (rest := []) ⟨hx, hb, hml, hown, hts⟩ (c_X6_look l D K F hPl gPl3 hPc hRo H.size sPl sPc sRo p2 o1 go1) (cwV 2 hts (gcV_X6_look (mB32 _ (List.mem_of_getElem? (i := 5) rfl))) rfl rfl rfl hdV_X6_look ⟨Nat.le_of_ble_eq_true rfl, Nat.le_of_ble_eq_true rfl⟩) hK hP hD hS hA (va_recv hK hP (ci := 5) (q0 := 0) rfl (rwl (rwl o_Pl))) rfl hl.1 rfl (Nat.le_of_ble_eq_true rfl) dX6_leastCost_3 ⟨Nat.zero_le _, Nat.zero_le _⟩ (fun H locs hP hD hS => ?_)
    have hP : va_P D vwCl (wPl K hPl hPc gPl3 o1.1 ++ wPc K hPc o1.2 ++ wRo K hRo sRo) H := hP
    have hD : va_D A (wPl K hPl hPc gPl3 o1.1 ++ wPc K hPc o1.2 ++ wRo K hRo sRo) := hD
    refine lv_aload_n hx hb dX6_leastCost_6 rfl (lv_at hl 0 rfl) ?_
    refine va_get (D := D) (ci := 5) (v := .ref (hPl 1)) (C := RX6) (T := TX6) (N := 4) hx hb hts iX6 hown hK hP 0 (rwl (rwl o_Pl)) rfl 1 (by decide) (htl _ (mB4 _ (List.mem_of_getElem? (i := 1) rfl))) (fun _ h9 => h9) rfl dX6_leastCost_7 ?_
    refine lv_aload_n hx hb dX6_leastCost_10 rfl (lv_at hl 1 rfl) ?_
    refine va_get (D := D) (ci := 8) (v := .int (sRo.1 1)) (C := RX9) (T := TX9) (N := 19) hx hb hts iX9 hown hK hP ((5 + 9) + 0) (rwr (lnA ln_Pl ln_Pc) o_Ro) rfl 1 (by decide) (htl _ (mB30 _ (List.mem_of_getElem? (i := 5) rfl))) (fun _ h9 => h9) rfl dX6_leastCost_11 ?_
    obtain ⟨g2, hf⟩ := gd_s hf
    refine va_lald hx hb hK hP 2 1 (f := o1.1.2.2.2 1) (rwl (rwl a_Pl_1)) rfl (vpb_in g2) dX6_leastCost_14 ?_
    refine lv_topl (fun v3 ev3 => ?_)
    have hf := lz_s hf v3 ev3
    obtain ⟨o4, go4, hf⟩ := bd_s hf
    refine ro_Si (As := [.long v3]) (rest := []) ⟨hx, hb, hml, hown, hts⟩ (c_X6_answer l D K F v3 o4 go4) (va_cwS 1 hts (gcS_X6_answer (mB33 _ (List.mem_of_getElem? (i := 6) rfl))) rfl rfl rfl hdS_X6_answer ⟨Nat.le_of_ble_eq_true rfl, Nat.le_of_ble_eq_true rfl⟩) hK hP hS va_Pnil rfl hl.1 rfl (Nat.le_of_ble_eq_true rfl) dX6_leastCost_15 ⟨Nat.zero_le _, Nat.zero_le _⟩ (fun H locs hP hS => ?_)
    have e9 := Option.some.inj hf
    rw [hQ]
    exact W.iret (v := o4) hx hb hr (fun t ht hW => ⟨⟨o4, (o1.1, o1.2), rfl, ⟨pr1 e9, pr2 e9⟩, ⟨by rw [ht]; exact hP, va_K.moved hW.alike hK, hD⟩⟩, hS.F ht⟩) hS.2.2 dX6_leastCost_18
  rw [hHe] at hgo
  exact hgo

def wz_X6_levelOnComing : List Cond := .code yX6_levelOnComing cX6_levelOnComing 5 (some .int) :: wsL_law
abbrev r_X6_levelOnComing : Room := { frames := 1, cells := 0, slots := 0, locals := 21 }
set_option maxHeartbeats 4000000 in
set_option maxRecDepth 100000 in
theorem c_X6_levelOnComing (l : Launch) (D : va_G) (K : Nat → ClassId) (F : Nat) (hPl : Nat → Nat) (gPl3 : Nat → Nat) (hPc : Nat → Nat) (hRo : Nat → Nat) (sPl : MS) (sPc : MS) (sRo : MS) (p2 : Int32) (res : Int32) (hf : f_X6_levelOnComing F sPl sPc sRo p2 = some res) : Met l yX6_levelOnComing wz_X6_levelOnComing r_X6_levelOnComing (va_Pc [.ref (hPl 99), .ref (hRo 99), .int p2] (PR D K (wPl K hPl hPc gPl3 sPl ++ wPc K hPc sPc ++ wRo K hRo sRo))) (va_Qi (fun r (_ : Unit) => r = res) BN nOne) 0 0 nOne := by
  refine Met.ofW (cc := cX6_levelOnComing) (maxL := 5) (ret := (some .int)) (by decide) rfl ?_
  intro p e s m args below meth c s₁ B hml hv
  obtain ⟨hargs, hP, hK⟩ := hv
  have hx := B.exec
  have hb := B.bytes
  have hr := B.returns
  have hts := atoms_spec (ws := wz_X6_levelOnComing) B.pre
  have htl : ∀ w ∈ wsL_law, w.before args s = true := fun w h => hts w (List.mem_cons_of_mem _ h)
  have hown : s.vm.findClass RX6 = some m.cls := findClass_of_methodNamed B.named
  have hlocks := B.notSynchronized
  have hS : va_S nOne s.heap s.heap [] := va_S.rf
  have iX6 : ∀ w ∈ wsX60, w ∈ wz_X6_levelOnComing := fun w h => List.mem_cons_of_mem _ (inlX6 w h)
  have iX9 : ∀ w ∈ wsX90, w ∈ wz_X6_levelOnComing := fun w h => List.mem_cons_of_mem _ (inlX9 w h)
  suffices hgo : ∀ Q : State → Prop, Q = MQ below (va_Qi (fun r (_ : Unit) => r = res) BN nOne) args s 0 0 nOne → W p l e (headSpec wz_X6_levelOnComing r_X6_levelOnComing).room s m args below meth c s.heap [] 0 0 Q (entryFrame m args 5) from hgo _ rfl
  intro Q hQ
  have w8 : ∀ (n : Nat), ∀ (x3 : Int32), ∀ (x4 : Int32), ∀ (H : Heap) (locs : List Loc) (ls : Array Slot), f_X6_levelOnComing_8 F sPl sPc sRo p2 n x3 x4 = some res → va_P D vwCl (wPl K hPl hPc gPl3 sPl ++ wPc K hPc sPc ++ wRo K hRo sRo) H → va_S nOne s.heap H locs → lv_has ls 5 [(0, .ref (hPl 99)), (1, .ref (hRo 99)), (2, .int p2), (3, .int x3), (4, .int x4)] → W p l e (headSpec wz_X6_levelOnComing r_X6_levelOnComing).room s m args below meth c H locs 0 0 Q (F0 m 8 ls []) := by
    intro n
    induction n with
    | zero =>
      intro x3 x4 H locs ls hf
      exact absurd (show none = some res from hf) (fun h => nomatch h)
    | succ n ih =>
      intro x3 x4 H locs ls hf hP hS hl
      rw [f_X6_levelOnComing_8] at hf
      refine lv_iload hx hb dX6_levelOnComing_8 (lv_at hl 4 rfl) ?_
      refine lv_iload_n hx hb dX6_levelOnComing_10 rfl (lv_at hl 2 rfl) ?_
      refine lv_icmp_ge (tgt := 41) hx hb dX6_levelOnComing_11 (by decide) (fun c1 => ?_) (fun c1 => ?_)
      · have hf := it_t hf c1
        refine lv_iload_n hx hb dX6_levelOnComing_41 rfl (lv_at hl 3 rfl) ?_
        have e9 := Option.some.inj hf
        rw [hQ]
        exact W.iret (v := x3) hx hb hr (fun t ht hW => ⟨⟨x3, (), rfl, e9, trivial⟩, hS.F ht⟩) hS.2.2 dX6_levelOnComing_42
      · have hf := it_f hf c1
        refine lv_iconst (v := (0 : Int32)) hx hb dX6_levelOnComing_14 (by decide) ?_
        refine lv_aload_n hx hb dX6_levelOnComing_15 rfl (lv_at hl 0 rfl) ?_
        refine va_get (D := D) (ci := 5) (v := .ref (hPl 2)) (C := RX6) (T := TX6) (N := 4) hx hb hts iX6 hown hK hP 0 (rwl (rwl o_Pl)) rfl 2 (by decide) (htl _ (mB4 _ (List.mem_of_getElem? (i := 3) rfl))) (fun _ h9 => h9) rfl dX6_levelOnComing_16 ?_
        refine lv_iload hx hb dX6_levelOnComing_19 (lv_at hl 4 rfl) ?_
        obtain ⟨g2, hf⟩ := gd_s hf
        refine va_ald2 (r := hPc x4.toNatClampNeg) hx hb hK hP 3 3 (rwl (rwl a_Pl_2)) rfl (vpb_in g2) (if_pos (vpb_lt g2)) dX6_levelOnComing_21 ?_
        refine lv_iload_n hx hb dX6_levelOnComing_22 rfl (lv_at hl 3 rfl) ?_
        obtain ⟨g3, hf⟩ := gd_s hf
        refine va_iald hx hb hK hP (5 + x4.toNatClampNeg) 0 (f := sPc.2.2.1 x4.toNatClampNeg) (rwl (rwr (n := 5) rfl (wPc_r x4.toNatClampNeg (vpb_lt g2)))) rfl (vpb_in g3) dX6_levelOnComing_23 ?_
        refine lv_topi (fun v4 ev4 => ?_)
        have hf := lz_s hf v4 ev4
        refine lv_aload_n hx hb dX6_levelOnComing_24 rfl (lv_at hl 1 rfl) ?_
        refine lv_iload hx hb dX6_levelOnComing_25 (lv_at hl 4 rfl) ?_
        obtain ⟨o5, go5, hf⟩ := bd_s hf
        refine ro_Vi (As := [.int x4]) (rest := [.int v4, .int (0 : Int32)]) ⟨hx, hb, hml, hown, hts⟩ (c_X9_legPints l D K F hRo sRo x4 o5 go5) (cwV 1 hts (gcV_X9_legPints (mB30 _ (List.mem_of_getElem? (i := 12) rfl))) rfl rfl rfl hdV_X9_legPints ⟨Nat.le_of_ble_eq_true rfl, Nat.le_of_ble_eq_true rfl⟩) hK hP hS (va_PL (cs := [wPl K hPl hPc gPl3 sPl, wPc K hPc sPc, wRo K hRo sRo]) (cc := [wRo K hRo sRo]) hP (fl3 _ _ _) [2] rfl (fl1 _)) (va_recv hK hP (ci := 8) (q0 := ((5 + 9) + 0)) rfl (rwr (lnA ln_Pl ln_Pc) o_Ro)) rfl hl.1 rfl (Nat.le_of_ble_eq_true rfl) dX6_levelOnComing_27 ⟨Nat.zero_le _, Nat.zero_le _⟩ (fun H locs hP hS => ?_)
        refine lv_isub hx hb dX6_levelOnComing_30 ?_
        refine va_mmax hx hb (hml.trans hl.1.symm) hown (htl _ (mB34 _ (List.mem_of_getElem? (i := 11) rfl))) (htl _ (mB9 _ (List.mem_of_getElem? (i := 8) rfl))) (htl _ (mB9 _ (List.mem_of_getElem? (i := 9) rfl))) (htl _ (mB9 _ (List.mem_of_getElem? (i := 10) rfl))) (Nat.le_of_ble_eq_true rfl) (Nat.le_of_ble_eq_true rfl) (Nat.zero_le _) (Nat.zero_le _) dX6_levelOnComing_31 ?_
        refine lv_topi (fun v6 ev6 => ?_)
        have hf := lz_s hf v6 ev6
        refine lv_istore_n (lv' := [(3, .int v6), (0, .ref (hPl 99)), (1, .ref (hRo 99)), (2, .int p2), (4, .int x4)]) hx hb dX6_levelOnComing_34 rfl hl (by decide) rfl (fun ls hl => ?_)
        obtain ⟨v7, ev7⟩ : ∃ z : Int32, z = x4 + (1 : Int32) := ⟨_, rfl⟩
        have hf := lz_s hf v7 ev7
        refine lv_iinc (v := v7) (lv' := [(4, .int v7), (3, .int v6), (0, .ref (hPl 99)), (1, .ref (hRo 99)), (2, .int p2)]) hx hb dX6_levelOnComing_35 hl (k := 4) rfl (by rw [ev7]; rfl) (by decide) rfl (fun ls hl => ?_)
        refine lv_goto (tgt := 8) hx hb dX6_levelOnComing_38 (by decide) ?_
        exact ih v6 v7 H locs ls hf hP hS (lv_sub hl [2, 3, 4, 1, 0] rfl)
  have hen : entryFrame m args 5 = entryFrame m (([.ref (hPl 99), .ref (hRo 99), .int p2] : List Value).toArray) 5 := by rw [hargs]
  have hl := lv_entry ([.ref (hPl 99), .ref (hRo 99), .int p2]) (n := 5) (Nat.le_of_ble_eq_true rfl)
  rw [hen, lg_entry_eq]
  generalize (lg_sl ([.ref (hPl 99), .ref (hRo 99), .int p2]) ++ List.replicate (5 - (lg_sl ([.ref (hPl 99), .ref (hRo 99), .int p2])).length) Slot.unset).toArray = ls at hl ⊢
  have hl : lv_has ls 5 [(0, .ref (hPl 99)), (1, .ref (hRo 99)), (2, .int p2)] := hl
  unfold f_X6_levelOnComing at hf
  obtain ⟨H, hHe⟩ : ∃ z, z = s.heap := ⟨_, rfl⟩
  obtain ⟨locs, hLe⟩ : ∃ z : List Loc, z = [] := ⟨_, rfl⟩
  rw [← hLe]
  have hS : va_S nOne s.heap H locs := by rw [hHe, hLe]; exact hS
  have hP : va_P D vwCl (wPl K hPl hPc gPl3 sPl ++ wPc K hPc sPc ++ wRo K hRo sRo) H := by rw [hHe]; exact hP
  have hgo : W p l e (headSpec wz_X6_levelOnComing r_X6_levelOnComing).room s m args below meth c H locs 0 0 Q (F0 m 0 ls []) := by
    refine lv_aload_n hx hb dX6_levelOnComing_0 rfl (lv_at hl 1 rfl) ?_
    refine va_get (D := D) (ci := 8) (v := .int (sRo.1 1)) (C := RX9) (T := TX9) (N := 19) hx hb hts iX9 hown hK hP ((5 + 9) + 0) (rwr (lnA ln_Pl ln_Pc) o_Ro) rfl 1 (by decide) (htl _ (mB30 _ (List.mem_of_getElem? (i := 5) rfl))) (fun _ h9 => h9) rfl dX6_levelOnComing_1 ?_
    refine lv_istore_n (lv' := [(3, .int (sRo.1 1)), (0, .ref (hPl 99)), (1, .ref (hRo 99)), (2, .int p2)]) hx hb dX6_levelOnComing_4 rfl hl (by decide) rfl (fun ls hl => ?_)
    refine lv_iconst (v := (0 : Int32)) hx hb dX6_levelOnComing_5 (by decide) ?_
    refine lv_istore (lv' := [(4, .int (0 : Int32)), (3, .int (sRo.1 1)), (0, .ref (hPl 99)), (1, .ref (hRo 99)), (2, .int p2)]) hx hb dX6_levelOnComing_6 hl (by decide) rfl (fun ls hl => ?_)
    exact w8 F (sRo.1 1) (0 : Int32) H locs ls hf hP hS (lv_sub hl [2, 3, 4, 1, 0] rfl)
  rw [hHe] at hgo
  exact hgo

theorem gcV_X6_leastCost {T0 : Cond} {own : String} {i : Nat} (h : Cond.methodLink own i yX6_leastCost ∈ wsL_law) : GoodIn (T0 :: wsL_law) (wsV own i RX6 yX6_leastCost wz_X6_leastCost) := gV h (mB32 _ (List.mem_of_getElem? (i := 2) rfl)) (mB32 _ (List.mem_of_getElem? (i := 3) rfl)) (mB2 _ (List.mem_of_getElem? (i := 2) rfl)) (mB32 _ (List.mem_of_getElem? (i := 4) rfl))
theorem hdV_X6_leastCost : yX6_leastCost.cls = RX6 ∧ yX6_leastCost.cls ≠ "java/lang/invoke/MethodHandle" ∧ yX6_leastCost.cls ≠ "java/lang/invoke/VarHandle" ∧ (parseMethodDescriptor yX6_leastCost.desc).map (fun d => d.parameters.length) = some 2 := by decide +kernel
theorem gcV_X6_levelOnComing {T0 : Cond} {own : String} {i : Nat} (h : Cond.methodLink own i yX6_levelOnComing ∈ wsL_law) : GoodIn (T0 :: wsL_law) (wsV own i RX6 yX6_levelOnComing wz_X6_levelOnComing) := gV h (mB34 _ (List.mem_of_getElem? (i := 8) rfl)) (mB34 _ (List.mem_of_getElem? (i := 9) rfl)) (mB2 _ (List.mem_of_getElem? (i := 2) rfl)) (mB34 _ (List.mem_of_getElem? (i := 10) rfl))
theorem hdV_X6_levelOnComing : yX6_levelOnComing.cls = RX6 ∧ yX6_levelOnComing.cls ≠ "java/lang/invoke/MethodHandle" ∧ yX6_levelOnComing.cls ≠ "java/lang/invoke/VarHandle" ∧ (parseMethodDescriptor yX6_levelOnComing.desc).map (fun d => d.parameters.length) = some 2 := by decide +kernel
def wz_X6_cheapestPints : List Cond := .code yX6_cheapestPints cX6_cheapestPints 4 (some .int) :: wsL_law
abbrev r_X6_cheapestPints : Room := { frames := 4, cells := 0, slots := 0, locals := 101 }
set_option maxHeartbeats 4000000 in
set_option maxRecDepth 100000 in
theorem c_X6_cheapestPints (l : Launch) (D : va_G) (K : Nat → ClassId) (F : Nat) (hPl : Nat → Nat) (gPl3 : Nat → Nat) (hPc : Nat → Nat) (hRo : Nat → Nat) (sz : Nat) (sPl : MS) (sPc : MS) (sRo : MS) (p2 : Int32) (res : Int32 × MS × MS) (hf : f_X6_cheapestPints F sRo p2 sPl sPc = some res) : Met l yX6_cheapestPints wz_X6_cheapestPints r_X6_cheapestPints (va_Pc [.ref (hPl 99), .ref (hRo 99), .int p2] (PW D K (wPl K hPl hPc gPl3 sPl ++ wPc K hPc sPc ++ wRo K hRo sRo) sz)) (va_Qi (fun r u => r = res.1 ∧ u = res.2) (fun u t => BW D K (va_A (wPl K hPl hPc gPl3 sPl ++ wPc K hPc sPc ++ wRo K hRo sRo) sz) (wPl K hPl hPc gPl3 u.1 ++ wPc K hPc u.2 ++ wRo K hRo sRo) t) (va_A (wPl K hPl hPc gPl3 sPl ++ wPc K hPc sPc ++ wRo K hRo sRo) sz)) 0 0 (va_A (wPl K hPl hPc gPl3 sPl ++ wPc K hPc sPc ++ wRo K hRo sRo) sz) := by
  refine Met.ofW (cc := cX6_cheapestPints) (maxL := 4) (ret := (some .int)) (by decide) rfl ?_
  intro p e s m args below meth c s₁ B hml hv
  obtain ⟨hargs, hsz, hP, hK, hD0⟩ := hv
  have hx := B.exec
  have hb := B.bytes
  have hr := B.returns
  have hts := atoms_spec (ws := wz_X6_cheapestPints) B.pre
  have htl : ∀ w ∈ wsL_law, w.before args s = true := fun w h => hts w (List.mem_cons_of_mem _ h)
  have hown : s.vm.findClass RX6 = some m.cls := findClass_of_methodNamed B.named
  have hlocks := B.notSynchronized
  subst hsz
  have hD := hD0.self (sz := s.heap.size)
  generalize hAe : va_A (wPl K hPl hPc gPl3 sPl ++ wPc K hPc sPc ++ wRo K hRo sRo) s.heap.size = A at hD ⊢
  have hA : ∀ q : Nat, s.heap.size ≤ q → A q := fun q h => by rw [← hAe]; exact Or.inr h
  have hS : va_S A s.heap s.heap [] := va_S.rf
  have iX6 : ∀ w ∈ wsX60, w ∈ wz_X6_cheapestPints := fun w h => List.mem_cons_of_mem _ (inlX6 w h)
  suffices hgo : ∀ Q : State → Prop, Q = MQ below (va_Qi (fun r u => r = res.1 ∧ u = res.2) (fun u t => BW D K A (wPl K hPl hPc gPl3 u.1 ++ wPc K hPc u.2 ++ wRo K hRo sRo) t) A) args s 0 0 A → W p l e (headSpec wz_X6_cheapestPints r_X6_cheapestPints).room s m args below meth c s.heap [] 0 0 Q (entryFrame m args 4) from hgo _ rfl
  intro Q hQ
  have hen : entryFrame m args 4 = entryFrame m (([.ref (hPl 99), .ref (hRo 99), .int p2] : List Value).toArray) 4 := by rw [hargs]
  have hl := lv_entry ([.ref (hPl 99), .ref (hRo 99), .int p2]) (n := 4) (Nat.le_of_ble_eq_true rfl)
  rw [hen, lg_entry_eq]
  generalize (lg_sl ([.ref (hPl 99), .ref (hRo 99), .int p2]) ++ List.replicate (4 - (lg_sl ([.ref (hPl 99), .ref (hRo 99), .int p2])).length) Slot.unset).toArray = ls at hl ⊢
  have hl : lv_has ls 4 [(0, .ref (hPl 99)), (1, .ref (hRo 99)), (2, .int p2)] := hl
  unfold f_X6_cheapestPints at hf
  obtain ⟨H, hHe⟩ : ∃ z, z = s.heap := ⟨_, rfl⟩
  obtain ⟨locs, hLe⟩ : ∃ z : List Loc, z = [] := ⟨_, rfl⟩
  rw [← hLe]
  have hS : va_S A s.heap H locs := by rw [hHe, hLe]; exact hS
  have hP : va_P D vwCl (wPl K hPl hPc gPl3 sPl ++ wPc K hPc sPc ++ wRo K hRo sRo) H := by rw [hHe]; exact hP
  have hgo : W p l e (headSpec wz_X6_cheapestPints r_X6_cheapestPints).room s m args below meth c H locs 0 0 Q (F0 m 0 ls []) := by
    refine lv_aload_n hx hb dX6_cheapestPints_0 rfl (lv_at hl 0 rfl) ?_
    refine lv_aload_n hx hb dX6_cheapestPints_1 rfl (lv_at hl 1 rfl) ?_
    refine lv_iconst (v := (-1 : Int32)) hx hb dX6_cheapestPints_2 (by decide) ?_
    obtain ⟨o1, go1, hf⟩ := bd_s hf
    refine rs_Vi (As := [.ref (hRo 99), .int (-1 : Int32)]) (rest := []) ⟨hx, hb, hml, hown, hts⟩ (c_X6_leastCost l D K F hPl gPl3 hPc hRo H.size sPl sPc sRo (-1 : Int32) o1 go1) (cwV 2 hts (gcV_X6_leastCost (mB34 _ (List.mem_of_getElem? (i := 6) rfl))) rfl rfl rfl hdV_X6_leastCost ⟨Nat.le_of_ble_eq_true rfl, Nat.le_of_ble_eq_true rfl⟩) hK hP hD hS hA (va_recv hK hP (ci := 5) (q0 := 0) rfl (rwl (rwl o_Pl))) rfl hl.1 rfl (Nat.le_of_ble_eq_true rfl) dX6_cheapestPints_3 ⟨Nat.zero_le _, Nat.zero_le _⟩ (fun H locs hP hD hS => ?_)
    have hP : va_P D vwCl (wPl K hPl hPc gPl3 o1.2.1 ++ wPc K hPc o1.2.2 ++ wRo K hRo sRo) H := hP
    have hD : va_D A (wPl K hPl hPc gPl3 o1.2.1 ++ wPc K hPc o1.2.2 ++ wRo K hRo sRo) := hD
    refine lv_bipush (v := (-2 : Int32)) hx hb dX6_cheapestPints_6 (by decide) ?_
    refine lv_icmp_ne (tgt := 14) hx hb dX6_cheapestPints_8 (by decide) (fun c2 => ?_) (fun c2 => ?_)
    · have hf := it_f hf c2
      refine lv_aload_n hx hb dX6_cheapestPints_14 rfl (lv_at hl 0 rfl) ?_
      refine lv_aload_n hx hb dX6_cheapestPints_15 rfl (lv_at hl 1 rfl) ?_
      refine lv_iload_n hx hb dX6_cheapestPints_16 rfl (lv_at hl 2 rfl) ?_
      obtain ⟨o3, go3, hf⟩ := bd_s hf
      refine ro_Vi (As := [.ref (hRo 99), .int p2]) (rest := []) ⟨hx, hb, hml, hown, hts⟩ (c_X6_levelOnComing l D K F hPl gPl3 hPc hRo o1.2.1 o1.2.2 sRo p2 o3 go3) (cwV 2 hts (gcV_X6_levelOnComing (mB34 _ (List.mem_of_getElem? (i := 7) rfl))) rfl rfl rfl hdV_X6_levelOnComing ⟨Nat.le_of_ble_eq_true rfl, Nat.le_of_ble_eq_true rfl⟩) hK hP hS hP (va_recv hK hP (ci := 5) (q0 := 0) rfl (rwl (rwl o_Pl))) rfl hl.1 rfl (Nat.le_of_ble_eq_true rfl) dX6_cheapestPints_17 ⟨Nat.zero_le _, Nat.zero_le _⟩ (fun H locs hP hS => ?_)
      refine lv_istore_n (lv' := [(3, .int o3), (0, .ref (hPl 99)), (1, .ref (hRo 99)), (2, .int p2)]) hx hb dX6_cheapestPints_20 rfl hl (by decide) rfl (fun ls hl => ?_)
      refine lv_aload_n hx hb dX6_cheapestPints_21 rfl (lv_at hl 1 rfl) ?_
      refine va_get (D := D) (ci := 5) (v := .ref (hPl 2)) (C := RX6) (T := TX6) (N := 4) hx hb hts iX6 hown hK hP 0 (rwl (rwl o_Pl)) rfl 2 (by decide) (htl _ (mB4 _ (List.mem_of_getElem? (i := 3) rfl))) (fun _ h9 => h9) rfl dX6_cheapestPints_22 ?_
      refine lv_iload_n hx hb dX6_cheapestPints_25 rfl (lv_at hl 3 rfl) ?_
      obtain ⟨g4, hf⟩ := gd_s hf
      refine va_ald2 (r := hPc p2.toNatClampNeg) hx hb hK hP 3 3 (rwl (rwl a_Pl_2)) rfl (vpb_in g4) (if_pos (vpb_lt g4)) dX6_cheapestPints_26 ?_
      refine lv_iload_n hx hb dX6_cheapestPints_27 rfl (lv_at hl 0 rfl) ?_
      obtain ⟨g5, hf⟩ := gd_s hf
      refine va_iald hx hb hK hP (5 + p2.toNatClampNeg) 0 (f := o1.2.2.2.2.1 p2.toNatClampNeg) (rwl (rwr (n := 5) rfl (wPc_r p2.toNatClampNeg (vpb_lt g4)))) rfl (vpb_in g5) dX6_cheapestPints_28 ?_
      refine lv_topi (fun v6 ev6 => ?_)
      have hf := lz_s hf v6 ev6
      refine lv_iload_n hx hb dX6_cheapestPints_29 rfl (lv_at hl 0 rfl) ?_
      refine lv_isub hx hb dX6_cheapestPints_30 ?_
      have e9 := Option.some.inj hf
      rw [hQ]
      exact W.iret (v := (v6 - o3)) hx hb hr (fun t ht hW => ⟨⟨(v6 - o3), (o1.2.1, o1.2.2), rfl, ⟨pr1 e9, pr2 e9⟩, ⟨by rw [ht]; exact hP, va_K.moved hW.alike hK, hD⟩⟩, hS.F ht⟩) hS.2.2 dX6_cheapestPints_31
    · have hf := it_t hf c2
      refine lv_bipush (v := (-2 : Int32)) hx hb dX6_cheapestPints_11 (by decide) ?_
      have e9 := Option.some.inj hf
      rw [hQ]
      exact W.iret (v := (-2 : Int32)) hx hb hr (fun t ht hW => ⟨⟨(-2 : Int32), (o1.2.1, o1.2.2), rfl, ⟨pr1 e9, pr2 e9⟩, ⟨by rw [ht]; exact hP, va_K.moved hW.alike hK, hD⟩⟩, hS.F ht⟩) hS.2.2 dX6_cheapestPints_13
  rw [hHe] at hgo
  exact hgo

def wz_X6_cheapestRest : List Cond := .code yX6_cheapestRest cX6_cheapestRest 2 (some .int) :: wsL_law
abbrev r_X6_cheapestRest : Room := { frames := 4, cells := 0, slots := 0, locals := 101 }
set_option maxHeartbeats 4000000 in
set_option maxRecDepth 100000 in
theorem c_X6_cheapestRest (l : Launch) (D : va_G) (K : Nat → ClassId) (F : Nat) (hPl : Nat → Nat) (gPl3 : Nat → Nat) (hPc : Nat → Nat) (hRo : Nat → Nat) (sz : Nat) (sPl : MS) (sPc : MS) (sRo : MS) (res : Int32 × MS × MS) (hf : f_X6_cheapestRest F sRo sPl sPc = some res) : Met l yX6_cheapestRest wz_X6_cheapestRest r_X6_cheapestRest (va_Pc [.ref (hPl 99), .ref (hRo 99)] (PW D K (wPl K hPl hPc gPl3 sPl ++ wPc K hPc sPc ++ wRo K hRo sRo) sz)) (va_Qi (fun r u => r = res.1 ∧ u = res.2) (fun u t => BW D K (va_A (wPl K hPl hPc gPl3 sPl ++ wPc K hPc sPc ++ wRo K hRo sRo) sz) (wPl K hPl hPc gPl3 u.1 ++ wPc K hPc u.2 ++ wRo K hRo sRo) t) (va_A (wPl K hPl hPc gPl3 sPl ++ wPc K hPc sPc ++ wRo K hRo sRo) sz)) 0 0 (va_A (wPl K hPl hPc gPl3 sPl ++ wPc K hPc sPc ++ wRo K hRo sRo) sz) := by
  refine Met.ofW (cc := cX6_cheapestRest) (maxL := 2) (ret := (some .int)) (by decide) rfl ?_
  intro p e s m args below meth c s₁ B hml hv
  obtain ⟨hargs, hsz, hP, hK, hD0⟩ := hv
  have hx := B.exec
  have hb := B.bytes
  have hr := B.returns
  have hts := atoms_spec (ws := wz_X6_cheapestRest) B.pre
  have htl : ∀ w ∈ wsL_law, w.before args s = true := fun w h => hts w (List.mem_cons_of_mem _ h)
  have hown : s.vm.findClass RX6 = some m.cls := findClass_of_methodNamed B.named
  have hlocks := B.notSynchronized
  subst hsz
  have hD := hD0.self (sz := s.heap.size)
  generalize hAe : va_A (wPl K hPl hPc gPl3 sPl ++ wPc K hPc sPc ++ wRo K hRo sRo) s.heap.size = A at hD ⊢
  have hA : ∀ q : Nat, s.heap.size ≤ q → A q := fun q h => by rw [← hAe]; exact Or.inr h
  have hS : va_S A s.heap s.heap [] := va_S.rf
  have iX9 : ∀ w ∈ wsX90, w ∈ wz_X6_cheapestRest := fun w h => List.mem_cons_of_mem _ (inlX9 w h)
  suffices hgo : ∀ Q : State → Prop, Q = MQ below (va_Qi (fun r u => r = res.1 ∧ u = res.2) (fun u t => BW D K A (wPl K hPl hPc gPl3 u.1 ++ wPc K hPc u.2 ++ wRo K hRo sRo) t) A) args s 0 0 A → W p l e (headSpec wz_X6_cheapestRest r_X6_cheapestRest).room s m args below meth c s.heap [] 0 0 Q (entryFrame m args 2) from hgo _ rfl
  intro Q hQ
  have hen : entryFrame m args 2 = entryFrame m (([.ref (hPl 99), .ref (hRo 99)] : List Value).toArray) 2 := by rw [hargs]
  have hl := lv_entry ([.ref (hPl 99), .ref (hRo 99)]) (n := 2) (Nat.le_of_ble_eq_true rfl)
  rw [hen, lg_entry_eq]
  generalize (lg_sl ([.ref (hPl 99), .ref (hRo 99)]) ++ List.replicate (2 - (lg_sl ([.ref (hPl 99), .ref (hRo 99)])).length) Slot.unset).toArray = ls at hl ⊢
  have hl : lv_has ls 2 [(0, .ref (hPl 99)), (1, .ref (hRo 99))] := hl
  unfold f_X6_cheapestRest at hf
  obtain ⟨H, hHe⟩ : ∃ z, z = s.heap := ⟨_, rfl⟩
  obtain ⟨locs, hLe⟩ : ∃ z : List Loc, z = [] := ⟨_, rfl⟩
  rw [← hLe]
  have hS : va_S A s.heap H locs := by rw [hHe, hLe]; exact hS
  have hP : va_P D vwCl (wPl K hPl hPc gPl3 sPl ++ wPc K hPc sPc ++ wRo K hRo sRo) H := by rw [hHe]; exact hP
  have hgo : W p l e (headSpec wz_X6_cheapestRest r_X6_cheapestRest).room s m args below meth c H locs 0 0 Q (F0 m 0 ls []) := by
    refine lv_aload_n hx hb dX6_cheapestRest_0 rfl (lv_at hl 0 rfl) ?_
    refine lv_aload_n hx hb dX6_cheapestRest_1 rfl (lv_at hl 1 rfl) ?_
    refine lv_iconst (v := (-1 : Int32)) hx hb dX6_cheapestRest_2 (by decide) ?_
    obtain ⟨o1, go1, hf⟩ := bd_s hf
    refine rs_Vi (As := [.ref (hRo 99), .int (-1 : Int32)]) (rest := []) ⟨hx, hb, hml, hown, hts⟩ (c_X6_leastCost l D K F hPl gPl3 hPc hRo H.size sPl sPc sRo (-1 : Int32) o1 go1) (cwV 2 hts (gcV_X6_leastCost (mB34 _ (List.mem_of_getElem? (i := 6) rfl))) rfl rfl rfl hdV_X6_leastCost ⟨Nat.le_of_ble_eq_true rfl, Nat.le_of_ble_eq_true rfl⟩) hK hP hD hS hA (va_recv hK hP (ci := 5) (q0 := 0) rfl (rwl (rwl o_Pl))) rfl hl.1 rfl (Nat.le_of_ble_eq_true rfl) dX6_cheapestRest_3 ⟨Nat.zero_le _, Nat.zero_le _⟩ (fun H locs hP hD hS => ?_)
    have hP : va_P D vwCl (wPl K hPl hPc gPl3 o1.2.1 ++ wPc K hPc o1.2.2 ++ wRo K hRo sRo) H := hP
    have hD : va_D A (wPl K hPl hPc gPl3 o1.2.1 ++ wPc K hPc o1.2.2 ++ wRo K hRo sRo) := hD
    refine lv_bipush (v := (-2 : Int32)) hx hb dX6_cheapestRest_6 (by decide) ?_
    refine lv_icmp_ne (tgt := 14) hx hb dX6_cheapestRest_8 (by decide) (fun c2 => ?_) (fun c2 => ?_)
    · have hf := it_f hf c2
      refine lv_aload_n hx hb dX6_cheapestRest_14 rfl (lv_at hl 0 rfl) ?_
      refine lv_aload_n hx hb dX6_cheapestRest_15 rfl (lv_at hl 1 rfl) ?_
      refine lv_aload_n hx hb dX6_cheapestRest_16 rfl (lv_at hl 1 rfl) ?_
      refine va_get (D := D) (ci := 8) (v := .int (sRo.1 8)) (C := RX9) (T := TX9) (N := 19) hx hb hts iX9 hown hK hP ((5 + 9) + 0) (rwr (lnA ln_Pl ln_Pc) o_Ro) rfl 8 (by decide) (htl _ (mB30 _ (List.mem_of_getElem? (i := 6) rfl))) (fun _ h9 => h9) rfl dX6_cheapestRest_17 ?_
      refine lv_iconst (v := (1 : Int32)) hx hb dX6_cheapestRest_20 (by decide) ?_
      refine lv_isub hx hb dX6_cheapestRest_21 ?_
      obtain ⟨o3, go3, hf⟩ := bd_s hf
      refine ro_Vi (As := [.ref (hRo 99), .int ((sRo.1 8) - (1 : Int32))]) (rest := []) ⟨hx, hb, hml, hown, hts⟩ (c_X6_levelOnComing l D K F hPl gPl3 hPc hRo o1.2.1 o1.2.2 sRo ((sRo.1 8) - (1 : Int32)) o3 go3) (cwV 2 hts (gcV_X6_levelOnComing (mB34 _ (List.mem_of_getElem? (i := 7) rfl))) rfl rfl rfl hdV_X6_levelOnComing ⟨Nat.le_of_ble_eq_true rfl, Nat.le_of_ble_eq_true rfl⟩) hK hP hS hP (va_recv hK hP (ci := 5) (q0 := 0) rfl (rwl (rwl o_Pl))) rfl hl.1 rfl (Nat.le_of_ble_eq_true rfl) dX6_cheapestRest_22 ⟨Nat.zero_le _, Nat.zero_le _⟩ (fun H locs hP hS => ?_)
      have e9 := Option.some.inj hf
      rw [hQ]
      exact W.iret (v := o3) hx hb hr (fun t ht hW => ⟨⟨o3, (o1.2.1, o1.2.2), rfl, ⟨pr1 e9, pr2 e9⟩, ⟨by rw [ht]; exact hP, va_K.moved hW.alike hK, hD⟩⟩, hS.F ht⟩) hS.2.2 dX6_cheapestRest_25
    · have hf := it_t hf c2
      refine lv_bipush (v := (-2 : Int32)) hx hb dX6_cheapestRest_11 (by decide) ?_
      have e9 := Option.some.inj hf
      rw [hQ]
      exact W.iret (v := (-2 : Int32)) hx hb hr (fun t ht hW => ⟨⟨(-2 : Int32), (o1.2.1, o1.2.2), rfl, ⟨pr1 e9, pr2 e9⟩, ⟨by rw [ht]; exact hP, va_K.moved hW.alike hK, hD⟩⟩, hS.F ht⟩) hS.2.2 dX6_cheapestRest_13
  rw [hHe] at hgo
  exact hgo

def wz_X6_worstGap : List Cond := .code yX6_worstGap cX6_worstGap 6 (some .int) :: wsL_law
abbrev r_X6_worstGap : Room := { frames := 4, cells := 0, slots := 0, locals := 101 }
set_option maxHeartbeats 4000000 in
set_option maxRecDepth 100000 in
theorem c_X6_worstGap (l : Launch) (D : va_G) (K : Nat → ClassId) (F : Nat) (hPl : Nat → Nat) (gPl3 : Nat → Nat) (hPc : Nat → Nat) (hRo : Nat → Nat) (sz : Nat) (sPl : MS) (sPc : MS) (sRo : MS) (res : Int32 × MS × MS) (hf : f_X6_worstGap F sRo sPl sPc = some res) : Met l yX6_worstGap wz_X6_worstGap r_X6_worstGap (va_Pc [.ref (hPl 99), .ref (hRo 99)] (PW D K (wPl K hPl hPc gPl3 sPl ++ wPc K hPc sPc ++ wRo K hRo sRo) sz)) (va_Qi (fun r u => r = res.1 ∧ u = res.2) (fun u t => BW D K (va_A (wPl K hPl hPc gPl3 sPl ++ wPc K hPc sPc ++ wRo K hRo sRo) sz) (wPl K hPl hPc gPl3 u.1 ++ wPc K hPc u.2 ++ wRo K hRo sRo) t) (va_A (wPl K hPl hPc gPl3 sPl ++ wPc K hPc sPc ++ wRo K hRo sRo) sz)) 0 0 (va_A (wPl K hPl hPc gPl3 sPl ++ wPc K hPc sPc ++ wRo K hRo sRo) sz) := by
  refine Met.ofW (cc := cX6_worstGap) (maxL := 6) (ret := (some .int)) (by decide) rfl ?_
  intro p e s m args below meth c s₁ B hml hv
  obtain ⟨hargs, hsz, hP, hK, hD0⟩ := hv
  have hx := B.exec
  have hb := B.bytes
  have hr := B.returns
  have hts := atoms_spec (ws := wz_X6_worstGap) B.pre
  have htl : ∀ w ∈ wsL_law, w.before args s = true := fun w h => hts w (List.mem_cons_of_mem _ h)
  have hown : s.vm.findClass RX6 = some m.cls := findClass_of_methodNamed B.named
  have hlocks := B.notSynchronized
  subst hsz
  have hD := hD0.self (sz := s.heap.size)
  generalize hAe : va_A (wPl K hPl hPc gPl3 sPl ++ wPc K hPc sPc ++ wRo K hRo sRo) s.heap.size = A at hD ⊢
  have hA : ∀ q : Nat, s.heap.size ≤ q → A q := fun q h => by rw [← hAe]; exact Or.inr h
  have hS : va_S A s.heap s.heap [] := va_S.rf
  have iX9 : ∀ w ∈ wsX90, w ∈ wz_X6_worstGap := fun w h => List.mem_cons_of_mem _ (inlX9 w h)
  suffices hgo : ∀ Q : State → Prop, Q = MQ below (va_Qi (fun r u => r = res.1 ∧ u = res.2) (fun u t => BW D K A (wPl K hPl hPc gPl3 u.1 ++ wPc K hPc u.2 ++ wRo K hRo sRo) t) A) args s 0 0 A → W p l e (headSpec wz_X6_worstGap r_X6_worstGap).room s m args below meth c s.heap [] 0 0 Q (entryFrame m args 6) from hgo _ rfl
  intro Q hQ
  have w71 : ∀ (k20 : Int32 → Int32 → Int32 → MS → MS → Option (Int32 × MS × MS)), (∀ (x2 : Int32), ∀ (x3 : Int32), ∀ (x4 : Int32), ∀ (sPl : MS), ∀ (sPc : MS), ∀ (H : Heap) (locs : List Loc) (ls : Array Slot), k20 x2 x3 x4 sPl sPc = some res → va_P D vwCl (wPl K hPl hPc gPl3 sPl ++ wPc K hPc sPc ++ wRo K hRo sRo) H → va_D A (wPl K hPl hPc gPl3 sPl ++ wPc K hPc sPc ++ wRo K hRo sRo) → va_S A s.heap H locs → lv_has ls 6 [(0, .ref (hPl 99)), (1, .ref (hRo 99)), (2, .int x2), (3, .int x3), (4, .int x4)] → W p l e (headSpec wz_X6_worstGap r_X6_worstGap).room s m args below meth c H locs 0 0 Q (F0 m 20 ls [])) → ∀ (x2 : Int32), ∀ (x3 : Int32), ∀ (x4 : Int32), ∀ (sPl : MS), ∀ (sPc : MS), ∀ (H : Heap) (locs : List Loc) (ls : Array Slot), f_X6_worstGap_71 F sRo k20 x2 x3 x4 sPl sPc = some res → va_P D vwCl (wPl K hPl hPc gPl3 sPl ++ wPc K hPc sPc ++ wRo K hRo sRo) H → va_D A (wPl K hPl hPc gPl3 sPl ++ wPc K hPc sPc ++ wRo K hRo sRo) → va_S A s.heap H locs → lv_has ls 6 [(0, .ref (hPl 99)), (1, .ref (hRo 99)), (2, .int x2), (3, .int x3), (4, .int x4)] → W p l e (headSpec wz_X6_worstGap r_X6_worstGap).room s m args below meth c H locs 0 0 Q (F0 m 71 ls []) := by
    intro k20 hk20 x2 x3 x4 sPl sPc H locs ls hf hP hD hS hl
    unfold f_X6_worstGap_71 at hf
    obtain ⟨v9, ev9⟩ : ∃ z : Int32, z = x4 + (1 : Int32) := ⟨_, rfl⟩
    have hf := lz_s hf v9 ev9
    refine lv_iinc (v := v9) (lv' := [(4, .int v9), (0, .ref (hPl 99)), (1, .ref (hRo 99)), (2, .int x2), (3, .int x3)]) hx hb dX6_worstGap_71 hl (k := 4) rfl (by rw [ev9]; rfl) (by decide) rfl (fun ls hl => ?_)
    refine lv_goto (tgt := 20) hx hb dX6_worstGap_74 (by decide) ?_
    exact hk20 x2 x3 v9 sPl sPc H locs ls hf hP hD hS (lv_sub hl [1, 2, 3, 4, 0] rfl)
  have w20 : ∀ (n : Nat), ∀ (x2 : Int32), ∀ (x3 : Int32), ∀ (x4 : Int32), ∀ (sPl : MS), ∀ (sPc : MS), ∀ (H : Heap) (locs : List Loc) (ls : Array Slot), f_X6_worstGap_20 F sRo n x2 x3 x4 sPl sPc = some res → va_P D vwCl (wPl K hPl hPc gPl3 sPl ++ wPc K hPc sPc ++ wRo K hRo sRo) H → va_D A (wPl K hPl hPc gPl3 sPl ++ wPc K hPc sPc ++ wRo K hRo sRo) → va_S A s.heap H locs → lv_has ls 6 [(0, .ref (hPl 99)), (1, .ref (hRo 99)), (2, .int x2), (3, .int x3), (4, .int x4)] → W p l e (headSpec wz_X6_worstGap r_X6_worstGap).room s m args below meth c H locs 0 0 Q (F0 m 20 ls []) := by
    intro n
    induction n with
    | zero =>
      intro x2 x3 x4 sPl sPc H locs ls hf
      exact absurd (show none = some res from hf) (fun h => nomatch h)
    | succ n ih =>
      intro x2 x3 x4 sPl sPc H locs ls hf hP hD hS hl
      rw [f_X6_worstGap_20] at hf
      refine lv_iload hx hb dX6_worstGap_20 (lv_at hl 4 rfl) ?_
      refine lv_aload_n hx hb dX6_worstGap_22 rfl (lv_at hl 1 rfl) ?_
      refine va_get (D := D) (ci := 8) (v := .int (sRo.1 8)) (C := RX9) (T := TX9) (N := 19) hx hb hts iX9 hown hK hP ((5 + 9) + 0) (rwr (lnA ln_Pl ln_Pc) o_Ro) rfl 8 (by decide) (htl _ (mB30 _ (List.mem_of_getElem? (i := 6) rfl))) (fun _ h9 => h9) rfl dX6_worstGap_23 ?_
      refine lv_iconst (v := (1 : Int32)) hx hb dX6_worstGap_26 (by decide) ?_
      refine lv_isub hx hb dX6_worstGap_27 ?_
      refine lv_icmp_ge (tgt := 77) hx hb dX6_worstGap_28 (by decide) (fun c3 => ?_) (fun c3 => ?_)
      · have hf := it_t hf c3
        refine lv_iload_n hx hb dX6_worstGap_77 rfl (lv_at hl 2 rfl) ?_
        have e9 := Option.some.inj hf
        rw [hQ]
        exact W.iret (v := x2) hx hb hr (fun t ht hW => ⟨⟨x2, (sPl, sPc), rfl, ⟨pr1 e9, pr2 e9⟩, ⟨by rw [ht]; exact hP, va_K.moved hW.alike hK, hD⟩⟩, hS.F ht⟩) hS.2.2 dX6_worstGap_78
      · have hf := it_f hf c3
        refine lv_aload_n hx hb dX6_worstGap_31 rfl (lv_at hl 1 rfl) ?_
        refine lv_iload hx hb dX6_worstGap_32 (lv_at hl 4 rfl) ?_
        obtain ⟨o4, go4, hf⟩ := bd_s hf
        refine ro_Vi (As := [.int x4]) (rest := []) ⟨hx, hb, hml, hown, hts⟩ (c_X9_hasPumpAt l D K F hRo sRo x4 o4 go4) (cwV 1 hts (gcV_X9_hasPumpAt (mB30 _ (List.mem_of_getElem? (i := 8) rfl))) rfl rfl rfl hdV_X9_hasPumpAt ⟨Nat.le_of_ble_eq_true rfl, Nat.le_of_ble_eq_true rfl⟩) hK hP hS (va_PL (cs := [wPl K hPl hPc gPl3 sPl, wPc K hPc sPc, wRo K hRo sRo]) (cc := [wRo K hRo sRo]) hP (fl3 _ _ _) [2] rfl (fl1 _)) (va_recv hK hP (ci := 8) (q0 := ((5 + 9) + 0)) rfl (rwr (lnA ln_Pl ln_Pc) o_Ro)) rfl hl.1 rfl (Nat.le_of_ble_eq_true rfl) dX6_worstGap_34 ⟨Nat.zero_le _, Nat.zero_le _⟩ (fun H locs hP hS => ?_)
        refine lv_if_eq (tgt := 71) hx hb dX6_worstGap_37 (by decide) (fun c5 => ?_) (fun c5 => ?_)
        · have hf := it_t hf c5
          exact w71 (f_X6_worstGap_20 F sRo n) ih x2 x3 x4 sPl sPc H locs ls hf hP hD hS (lv_sub hl [0, 1, 2, 3, 4] rfl)
        · have hf := it_f hf c5
          refine lv_aload_n hx hb dX6_worstGap_40 rfl (lv_at hl 0 rfl) ?_
          refine lv_aload_n hx hb dX6_worstGap_41 rfl (lv_at hl 1 rfl) ?_
          refine lv_iload hx hb dX6_worstGap_42 (lv_at hl 4 rfl) ?_
          obtain ⟨o6, go6, hf⟩ := bd_s hf
          refine rs_Vi (As := [.ref (hRo 99), .int x4]) (rest := []) ⟨hx, hb, hml, hown, hts⟩ (c_X6_leastCost l D K F hPl gPl3 hPc hRo H.size sPl sPc sRo x4 o6 go6) (cwV 2 hts (gcV_X6_leastCost (mB34 _ (List.mem_of_getElem? (i := 6) rfl))) rfl rfl rfl hdV_X6_leastCost ⟨Nat.le_of_ble_eq_true rfl, Nat.le_of_ble_eq_true rfl⟩) hK hP hD hS hA (va_recv hK hP (ci := 5) (q0 := 0) rfl (rwl (rwl o_Pl))) rfl hl.1 rfl (Nat.le_of_ble_eq_true rfl) dX6_worstGap_44 ⟨Nat.zero_le _, Nat.zero_le _⟩ (fun H locs hP hD hS => ?_)
          have hP : va_P D vwCl (wPl K hPl hPc gPl3 o6.2.1 ++ wPc K hPc o6.2.2 ++ wRo K hRo sRo) H := hP
          have hD : va_D A (wPl K hPl hPc gPl3 o6.2.1 ++ wPc K hPc o6.2.2 ++ wRo K hRo sRo) := hD
          refine lv_istore (lv' := [(5, .int o6.1), (0, .ref (hPl 99)), (1, .ref (hRo 99)), (2, .int x2), (3, .int x3), (4, .int x4)]) hx hb dX6_worstGap_47 hl (by decide) rfl (fun ls hl => ?_)
          refine lv_iload hx hb dX6_worstGap_49 (lv_at hl 0 rfl) ?_
          refine lv_bipush (v := (-2 : Int32)) hx hb dX6_worstGap_51 (by decide) ?_
          refine lv_icmp_ne (tgt := 59) hx hb dX6_worstGap_53 (by decide) (fun c7 => ?_) (fun c7 => ?_)
          · have hf := it_f hf c7
            refine lv_iload hx hb dX6_worstGap_59 (lv_at hl 0 rfl) ?_
            refine lv_iload_n hx hb dX6_worstGap_61 rfl (lv_at hl 4 rfl) ?_
            refine lv_icmp_le (tgt := 71) hx hb dX6_worstGap_62 (by decide) (fun c8 => ?_) (fun c8 => ?_)
            · have hf := it_t hf c8
              exact w71 (f_X6_worstGap_20 F sRo n) ih x2 x3 x4 o6.2.1 o6.2.2 H locs ls hf hP hD hS (lv_sub hl [1, 2, 3, 4, 5] rfl)
            · have hf := it_f hf c8
              refine lv_iload hx hb dX6_worstGap_65 (lv_at hl 0 rfl) ?_
              refine lv_istore_n (lv' := [(3, .int o6.1), (5, .int o6.1), (0, .ref (hPl 99)), (1, .ref (hRo 99)), (2, .int x2), (4, .int x4)]) hx hb dX6_worstGap_67 rfl hl (by decide) rfl (fun ls hl => ?_)
              refine lv_iload hx hb dX6_worstGap_68 (lv_at hl 5 rfl) ?_
              refine lv_istore_n (lv' := [(2, .int x4), (3, .int o6.1), (5, .int o6.1), (0, .ref (hPl 99)), (1, .ref (hRo 99)), (4, .int x4)]) hx hb dX6_worstGap_70 rfl hl (by decide) rfl (fun ls hl => ?_)
              exact w71 (f_X6_worstGap_20 F sRo n) ih x4 o6.1 x4 o6.2.1 o6.2.2 H locs ls hf hP hD hS (lv_sub hl [3, 4, 0, 1, 5] rfl)
          · have hf := it_t hf c7
            refine lv_iload hx hb dX6_worstGap_56 (lv_at hl 5 rfl) ?_
            have e9 := Option.some.inj hf
            rw [hQ]
            exact W.iret (v := x4) hx hb hr (fun t ht hW => ⟨⟨x4, (o6.2.1, o6.2.2), rfl, ⟨pr1 e9, pr2 e9⟩, ⟨by rw [ht]; exact hP, va_K.moved hW.alike hK, hD⟩⟩, hS.F ht⟩) hS.2.2 dX6_worstGap_58
  have hen : entryFrame m args 6 = entryFrame m (([.ref (hPl 99), .ref (hRo 99)] : List Value).toArray) 6 := by rw [hargs]
  have hl := lv_entry ([.ref (hPl 99), .ref (hRo 99)]) (n := 6) (Nat.le_of_ble_eq_true rfl)
  rw [hen, lg_entry_eq]
  generalize (lg_sl ([.ref (hPl 99), .ref (hRo 99)]) ++ List.replicate (6 - (lg_sl ([.ref (hPl 99), .ref (hRo 99)])).length) Slot.unset).toArray = ls at hl ⊢
  have hl : lv_has ls 6 [(0, .ref (hPl 99)), (1, .ref (hRo 99))] := hl
  unfold f_X6_worstGap at hf
  obtain ⟨H, hHe⟩ : ∃ z, z = s.heap := ⟨_, rfl⟩
  obtain ⟨locs, hLe⟩ : ∃ z : List Loc, z = [] := ⟨_, rfl⟩
  rw [← hLe]
  have hS : va_S A s.heap H locs := by rw [hHe, hLe]; exact hS
  have hP : va_P D vwCl (wPl K hPl hPc gPl3 sPl ++ wPc K hPc sPc ++ wRo K hRo sRo) H := by rw [hHe]; exact hP
  have hgo : W p l e (headSpec wz_X6_worstGap r_X6_worstGap).room s m args below meth c H locs 0 0 Q (F0 m 0 ls []) := by
    refine lv_aload_n hx hb dX6_worstGap_0 rfl (lv_at hl 0 rfl) ?_
    refine lv_aload_n hx hb dX6_worstGap_1 rfl (lv_at hl 1 rfl) ?_
    refine lv_iconst (v := (-1 : Int32)) hx hb dX6_worstGap_2 (by decide) ?_
    obtain ⟨o1, go1, hf⟩ := bd_s hf
    refine rs_Vi (As := [.ref (hRo 99), .int (-1 : Int32)]) (rest := []) ⟨hx, hb, hml, hown, hts⟩ (c_X6_leastCost l D K F hPl gPl3 hPc hRo H.size sPl sPc sRo (-1 : Int32) o1 go1) (cwV 2 hts (gcV_X6_leastCost (mB34 _ (List.mem_of_getElem? (i := 6) rfl))) rfl rfl rfl hdV_X6_leastCost ⟨Nat.le_of_ble_eq_true rfl, Nat.le_of_ble_eq_true rfl⟩) hK hP hD hS hA (va_recv hK hP (ci := 5) (q0 := 0) rfl (rwl (rwl o_Pl))) rfl hl.1 rfl (Nat.le_of_ble_eq_true rfl) dX6_worstGap_3 ⟨Nat.zero_le _, Nat.zero_le _⟩ (fun H locs hP hD hS => ?_)
    have hP : va_P D vwCl (wPl K hPl hPc gPl3 o1.2.1 ++ wPc K hPc o1.2.2 ++ wRo K hRo sRo) H := hP
    have hD : va_D A (wPl K hPl hPc gPl3 o1.2.1 ++ wPc K hPc o1.2.2 ++ wRo K hRo sRo) := hD
    refine lv_bipush (v := (-2 : Int32)) hx hb dX6_worstGap_6 (by decide) ?_
    refine lv_icmp_ne (tgt := 13) hx hb dX6_worstGap_8 (by decide) (fun c2 => ?_) (fun c2 => ?_)
    · have hf := it_f hf c2
      refine lv_iconst (v := (-1 : Int32)) hx hb dX6_worstGap_13 (by decide) ?_
      refine lv_istore_n (lv' := [(2, .int (-1 : Int32)), (0, .ref (hPl 99)), (1, .ref (hRo 99))]) hx hb dX6_worstGap_14 rfl hl (by decide) rfl (fun ls hl => ?_)
      refine lv_iconst (v := (-1 : Int32)) hx hb dX6_worstGap_15 (by decide) ?_
      refine lv_istore_n (lv' := [(3, .int (-1 : Int32)), (2, .int (-1 : Int32)), (0, .ref (hPl 99)), (1, .ref (hRo 99))]) hx hb dX6_worstGap_16 rfl hl (by decide) rfl (fun ls hl => ?_)
      refine lv_iconst (v := (0 : Int32)) hx hb dX6_worstGap_17 (by decide) ?_
      refine lv_istore (lv' := [(4, .int (0 : Int32)), (3, .int (-1 : Int32)), (2, .int (-1 : Int32)), (0, .ref (hPl 99)), (1, .ref (hRo 99))]) hx hb dX6_worstGap_18 hl (by decide) rfl (fun ls hl => ?_)
      exact w20 F (-1 : Int32) (-1 : Int32) (0 : Int32) o1.2.1 o1.2.2 H locs ls hf hP hD hS (lv_sub hl [3, 4, 2, 1, 0] rfl)
    · have hf := it_t hf c2
      refine lv_iconst (v := (-1 : Int32)) hx hb dX6_worstGap_11 (by decide) ?_
      have e9 := Option.some.inj hf
      rw [hQ]
      exact W.iret (v := (-1 : Int32)) hx hb hr (fun t ht hW => ⟨⟨(-1 : Int32), (o1.2.1, o1.2.2), rfl, ⟨pr1 e9, pr2 e9⟩, ⟨by rw [ht]; exact hP, va_K.moved hW.alike hK, hD⟩⟩, hS.F ht⟩) hS.2.2 dX6_worstGap_12
  rw [hHe] at hgo
  exact hgo

def wz_X6_stopHere : List Cond := .code yX6_stopHere cX6_stopHere 8 none :: wsL_law
abbrev r_X6_stopHere : Room := { frames := 1, cells := 0, slots := 0, locals := 23 }
set_option maxHeartbeats 4000000 in
set_option maxRecDepth 100000 in
theorem c_X6_stopHere (l : Launch) (D : va_G) (K : Nat → ClassId) (F : Nat) (hRo : Nat → Nat) (aq0 nq0 : Nat) (aq1 nq1 : Nat) (sz : Nat) (sRo : MS) (fq0 : (Nat → Int64)) (fq1 : (Nat → Int64)) (p1 : Int32) (res : (Nat → Int64)) (hf : f_X6_stopHere F sRo nq0 nq1 fq1 p1 fq0 = some res) : Met l yX6_stopHere wz_X6_stopHere r_X6_stopHere (va_Pc [.ref (hRo 99), .int p1, .ref aq0, .ref aq1] (PW D K (wRo K hRo sRo ++ wAJ K aq0 nq0 fq0 ++ wAJ K aq1 nq1 fq1) sz)) (va_Qv (fun u => u = res) (fun u t => BW D K (va_A (wRo K hRo sRo ++ wAJ K aq0 nq0 fq0 ++ wAJ K aq1 nq1 fq1) sz) (wRo K hRo sRo ++ wAJ K aq0 nq0 u ++ wAJ K aq1 nq1 fq1) t) (va_A (wRo K hRo sRo ++ wAJ K aq0 nq0 fq0 ++ wAJ K aq1 nq1 fq1) sz)) 0 0 (va_A (wRo K hRo sRo ++ wAJ K aq0 nq0 fq0 ++ wAJ K aq1 nq1 fq1) sz) := by
  refine Met.ofW (cc := cX6_stopHere) (maxL := 8) (ret := none) (by decide) rfl ?_
  intro p e s m args below meth c s₁ B hml hv
  obtain ⟨hargs, hsz, hP, hK, hD0⟩ := hv
  have hx := B.exec
  have hb := B.bytes
  have hr := B.returns
  have hts := atoms_spec (ws := wz_X6_stopHere) B.pre
  have htl : ∀ w ∈ wsL_law, w.before args s = true := fun w h => hts w (List.mem_cons_of_mem _ h)
  have hown : s.vm.findClass RX6 = some m.cls := findClass_of_methodNamed B.named
  have hlocks := B.notSynchronized
  subst hsz
  have hD := hD0.self (sz := s.heap.size)
  generalize hAe : va_A (wRo K hRo sRo ++ wAJ K aq0 nq0 fq0 ++ wAJ K aq1 nq1 fq1) s.heap.size = A at hD ⊢
  have hA : ∀ q : Nat, s.heap.size ≤ q → A q := fun q h => by rw [← hAe]; exact Or.inr h
  have hS : va_S A s.heap s.heap [] := va_S.rf
  have iX9 : ∀ w ∈ wsX90, w ∈ wz_X6_stopHere := fun w h => List.mem_cons_of_mem _ (inlX9 w h)
  suffices hgo : ∀ Q : State → Prop, Q = MQ below (va_Qv (fun u => u = res) (fun u t => BW D K A (wRo K hRo sRo ++ wAJ K aq0 nq0 u ++ wAJ K aq1 nq1 fq1) t) A) args s 0 0 A → W p l e (headSpec wz_X6_stopHere r_X6_stopHere).room s m args below meth c s.heap [] 0 0 Q (entryFrame m args 8) from hgo _ rfl
  intro Q hQ
  have w88 : ∀ (k12 : Int32 → Int32 → (Nat → Int64) → Option ((Nat → Int64))), (∀ (x4 : Int32), ∀ (x5 : Int32), ∀ (fq0 : (Nat → Int64)), ∀ (H : Heap) (locs : List Loc) (ls : Array Slot), k12 x4 x5 fq0 = some res → va_P D vwCl (wRo K hRo sRo ++ wAJ K aq0 nq0 fq0 ++ wAJ K aq1 nq1 fq1) H → va_D A (wRo K hRo sRo ++ wAJ K aq0 nq0 fq0 ++ wAJ K aq1 nq1 fq1) → va_S A s.heap H locs → lv_has ls 8 [(0, .ref (hRo 99)), (1, .int p1), (2, .ref aq0), (3, .ref aq1), (4, .int x4), (5, .int x5)] → W p l e (headSpec wz_X6_stopHere r_X6_stopHere).room s m args below meth c H locs 0 0 Q (F0 m 12 ls [])) → ∀ (x4 : Int32), ∀ (x5 : Int32), ∀ (fq0 : (Nat → Int64)), ∀ (H : Heap) (locs : List Loc) (ls : Array Slot), f_X6_stopHere_88 F sRo nq0 nq1 fq1 p1 k12 x4 x5 fq0 = some res → va_P D vwCl (wRo K hRo sRo ++ wAJ K aq0 nq0 fq0 ++ wAJ K aq1 nq1 fq1) H → va_D A (wRo K hRo sRo ++ wAJ K aq0 nq0 fq0 ++ wAJ K aq1 nq1 fq1) → va_S A s.heap H locs → lv_has ls 8 [(0, .ref (hRo 99)), (1, .int p1), (2, .ref aq0), (3, .ref aq1), (4, .int x4), (5, .int x5)] → W p l e (headSpec wz_X6_stopHere r_X6_stopHere).room s m args below meth c H locs 0 0 Q (F0 m 88 ls []) := by
    intro k12 hk12 x4 x5 fq0 H locs ls hf hP hD hS hl
    unfold f_X6_stopHere_88 at hf
    obtain ⟨v15, ev15⟩ : ∃ z : Int32, z = x5 + (-1 : Int32) := ⟨_, rfl⟩
    have hf := lz_s hf v15 ev15
    refine lv_iinc (v := v15) (lv' := [(5, .int v15), (0, .ref (hRo 99)), (1, .int p1), (2, .ref aq0), (3, .ref aq1), (4, .int x4)]) hx hb dX6_stopHere_88 hl (k := 5) rfl (by rw [ev15]; rfl) (by decide) rfl (fun ls hl => ?_)
    refine lv_goto (tgt := 12) hx hb dX6_stopHere_91 (by decide) ?_
    exact hk12 x4 v15 fq0 H locs ls hf hP hD hS (lv_sub hl [1, 2, 3, 4, 5, 0] rfl)
  have w12 : ∀ (n : Nat), ∀ (x4 : Int32), ∀ (x5 : Int32), ∀ (fq0 : (Nat → Int64)), ∀ (H : Heap) (locs : List Loc) (ls : Array Slot), f_X6_stopHere_12 F sRo nq0 nq1 fq1 p1 n x4 x5 fq0 = some res → va_P D vwCl (wRo K hRo sRo ++ wAJ K aq0 nq0 fq0 ++ wAJ K aq1 nq1 fq1) H → va_D A (wRo K hRo sRo ++ wAJ K aq0 nq0 fq0 ++ wAJ K aq1 nq1 fq1) → va_S A s.heap H locs → lv_has ls 8 [(0, .ref (hRo 99)), (1, .int p1), (2, .ref aq0), (3, .ref aq1), (4, .int x4), (5, .int x5)] → W p l e (headSpec wz_X6_stopHere r_X6_stopHere).room s m args below meth c H locs 0 0 Q (F0 m 12 ls []) := by
    intro n
    induction n with
    | zero =>
      intro x4 x5 fq0 H locs ls hf
      exact absurd (show none = some res from hf) (fun h => nomatch h)
    | succ n ih =>
      intro x4 x5 fq0 H locs ls hf hP hD hS hl
      rw [f_X6_stopHere_12] at hf
      refine lv_iload hx hb dX6_stopHere_12 (lv_at hl 5 rfl) ?_
      refine lv_if_lt (tgt := 94) hx hb dX6_stopHere_14 (by decide) (fun c1 => ?_) (fun c1 => ?_)
      · have hf := it_t hf c1
        have e9 := Option.some.inj hf
        rw [hQ]
        exact W.vret hx hb hr (fun t ht hW => ⟨⟨fq0, rfl, e9, ⟨by rw [ht]; exact hP, va_K.moved hW.alike hK, hD⟩⟩, hS.F ht⟩) hS.2.2 dX6_stopHere_94
      · have hf := it_f hf c1
        refine lv_aload_n hx hb dX6_stopHere_17 rfl (lv_at hl 0 rfl) ?_
        refine va_get (D := D) (ci := 8) (v := .int (sRo.1 2)) (C := RX9) (T := TX9) (N := 19) hx hb hts iX9 hown hK hP 0 (rwl (rwl o_Ro)) rfl 2 (by decide) (htl _ (mB31 _ (List.mem_of_getElem? (i := 12) rfl))) (fun _ h9 => h9) rfl dX6_stopHere_18 ?_
        refine lv_i2l (v := (sRo.1 2).toInt64) hx hb dX6_stopHere_21 rfl ?_
        refine lv_iload_n hx hb dX6_stopHere_22 rfl (lv_at hl 1 rfl) ?_
        refine lv_i2l (v := p1.toInt64) hx hb dX6_stopHere_23 rfl ?_
        refine lv_iload hx hb dX6_stopHere_24 (lv_at hl 4 rfl) ?_
        refine lv_iload hx hb dX6_stopHere_26 (lv_at hl 5 rfl) ?_
        refine lv_isub hx hb dX6_stopHere_28 ?_
        refine lv_i2l (v := (x4 - x5).toInt64) hx hb dX6_stopHere_29 rfl ?_
        refine lv_lmul hx hb dX6_stopHere_30 ?_
        refine lv_ladd hx hb dX6_stopHere_31 ?_
        refine lv_topl (fun v2 ev2 => ?_)
        have hf := lz_s hf v2 ev2
        refine lv_aload_n hx hb dX6_stopHere_32 rfl (lv_at hl 3 rfl) ?_
        refine lv_iload hx hb dX6_stopHere_33 (lv_at hl 4 rfl) ?_
        obtain ⟨g3, hf⟩ := gd_s hf
        refine va_lald hx hb hK hP ((10 + 1) + 0) 1 (f := fq1) (rwr (lnA ln_Ro ln_AJ) o_AJ) rfl (vpb_in g3) dX6_stopHere_35 ?_
        refine lv_ladd hx hb dX6_stopHere_36 ?_
        refine lv_topl (fun v4 ev4 => ?_)
        have hf := lz_s hf v4 ev4
        refine lv_lstore (lv' := [(6, .long v4), (0, .ref (hRo 99)), (1, .int p1), (2, .ref aq0), (3, .ref aq1), (4, .int x4), (5, .int x5)]) hx hb dX6_stopHere_37 hl (by decide) rfl (fun ls hl => ?_)
        refine lv_aload_n hx hb dX6_stopHere_39 rfl (lv_at hl 3 rfl) ?_
        refine lv_iload hx hb dX6_stopHere_40 (lv_at hl 6 rfl) ?_
        refine lv_ldc2 (v := (1099511627776 : Int64)) hx hb hown (htl _ (mB32 _ (List.mem_of_getElem? (i := 9) rfl))) dX6_stopHere_42 ?_
        refine lv_aload_n hx hb dX6_stopHere_45 rfl (lv_at hl 3 rfl) ?_
        refine lv_iload hx hb dX6_stopHere_46 (lv_at hl 6 rfl) ?_
        obtain ⟨g5, hf⟩ := gd_s hf
        refine va_lald hx hb hK hP (10 + 0) 1 (f := fq0) (rwl (rwr ln_Ro o_AJ)) rfl (vpb_in g5) dX6_stopHere_48 ?_
        refine lv_lload hx hb dX6_stopHere_49 (lv_at hl 0 rfl) ?_
        refine va_mmin_long hx hb (hml.trans hl.1.symm) hown (htl _ (mB35 _ (List.mem_of_getElem? (i := 7) rfl))) (htl _ (mB35 _ (List.mem_of_getElem? (i := 8) rfl))) (htl _ (mB9 _ (List.mem_of_getElem? (i := 9) rfl))) (htl _ (mB35 _ (List.mem_of_getElem? (i := 9) rfl))) (Nat.le_of_ble_eq_true rfl) (Nat.le_of_ble_eq_true rfl) (Nat.zero_le _) (Nat.zero_le _) dX6_stopHere_51 ?_
        refine lv_topl (fun v6 ev6 => ?_)
        have hf := lz_s hf v6 ev6
        refine va_mmin_long hx hb (hml.trans hl.1.symm) hown (htl _ (mB35 _ (List.mem_of_getElem? (i := 7) rfl))) (htl _ (mB35 _ (List.mem_of_getElem? (i := 8) rfl))) (htl _ (mB9 _ (List.mem_of_getElem? (i := 9) rfl))) (htl _ (mB35 _ (List.mem_of_getElem? (i := 9) rfl))) (Nat.le_of_ble_eq_true rfl) (Nat.le_of_ble_eq_true rfl) (Nat.zero_le _) (Nat.zero_le _) dX6_stopHere_54 ?_
        refine lv_topl (fun v7 ev7 => ?_)
        have hf := lz_s hf v7 ev7
        obtain ⟨g8, hf⟩ := gd_s hf
        refine va_last hx hb hK hP hD hS (10 + 0) 1 (f := fq0) (rwl (rwr ln_Ro o_AJ)) rfl (vpb_in g8) dX6_stopHere_57 (fun H locs hP hD hS => ?_)
        have hP := cvP (stl (str ln_Ro s_AJ) (rlt (rwr ln_Ro o_AJ))) hP
        have hD := cvD (stl (str ln_Ro s_AJ) (rlt (rwr ln_Ro o_AJ))) hD
        obtain ⟨g9, eg9⟩ : ∃ z, z = vp_updL fq0 x5.toNatClampNeg v7 := ⟨_, rfl⟩
        have hP : va_P D vwCl (wRo K hRo sRo ++ wAJ K aq0 nq0 g9 ++ wAJ K aq1 nq1 fq1) H := by rw [eg9]; exact hP
        have hD : va_D A (wRo K hRo sRo ++ wAJ K aq0 nq0 g9 ++ wAJ K aq1 nq1 fq1) := by rw [eg9]; exact hD
        have hf := lz_s hf g9 eg9
        refine lv_aload_n hx hb dX6_stopHere_58 rfl (lv_at hl 4 rfl) ?_
        refine lv_iload hx hb dX6_stopHere_59 (lv_at hl 6 rfl) ?_
        obtain ⟨g10, hf⟩ := gd_s hf
        refine va_lald hx hb hK hP ((10 + 1) + 0) 1 (f := fq1) (rwr (lnA ln_Ro ln_AJ) o_AJ) rfl (vpb_in g10) dX6_stopHere_61 ?_
        refine lv_iload_n hx hb dX6_stopHere_62 rfl (lv_at hl 2 rfl) ?_
        refine lv_i2l (v := p1.toInt64) hx hb dX6_stopHere_63 rfl ?_
        refine lv_iload hx hb dX6_stopHere_64 (lv_at hl 6 rfl) ?_
        refine lv_i2l (v := x5.toInt64) hx hb dX6_stopHere_66 rfl ?_
        refine lv_lmul hx hb dX6_stopHere_67 ?_
        refine lv_ladd hx hb dX6_stopHere_68 ?_
        refine lv_topl (fun v11 ev11 => ?_)
        have hf := lz_s hf v11 ev11
        refine lv_aload_n hx hb dX6_stopHere_69 rfl (lv_at hl 4 rfl) ?_
        refine lv_iload hx hb dX6_stopHere_70 (lv_at hl 5 rfl) ?_
        obtain ⟨g12, hf⟩ := gd_s hf
        refine va_lald hx hb hK hP ((10 + 1) + 0) 1 (f := fq1) (rwr (lnA ln_Ro ln_AJ) o_AJ) rfl (vpb_in g12) dX6_stopHere_72 ?_
        refine lv_iload_n hx hb dX6_stopHere_73 rfl (lv_at hl 2 rfl) ?_
        refine lv_i2l (v := p1.toInt64) hx hb dX6_stopHere_74 rfl ?_
        refine lv_iload hx hb dX6_stopHere_75 (lv_at hl 5 rfl) ?_
        refine lv_i2l (v := x4.toInt64) hx hb dX6_stopHere_77 rfl ?_
        refine lv_lmul hx hb dX6_stopHere_78 ?_
        refine lv_ladd hx hb dX6_stopHere_79 ?_
        refine lv_topl (fun v13 ev13 => ?_)
        have hf := lz_s hf v13 ev13
        refine W.lcmp hx hb dX6_stopHere_80 ?_
        refine lv_if_ge (tgt := 88) hx hb dX6_stopHere_81 (by decide) (fun c14 => ?_) (fun c14 => ?_)
        · have hf := it_t hf c14
          exact w88 (f_X6_stopHere_12 F sRo nq0 nq1 fq1 p1 n) ih x4 x5 g9 H locs ls hf hP hD hS (lv_sub hl [1, 2, 3, 4, 5, 6] rfl)
        · have hf := it_f hf c14
          refine lv_iload hx hb dX6_stopHere_84 (lv_at hl 6 rfl) ?_
          refine lv_istore (lv' := [(4, .int x5), (6, .long v4), (0, .ref (hRo 99)), (1, .int p1), (2, .ref aq0), (3, .ref aq1), (5, .int x5)]) hx hb dX6_stopHere_86 hl (by decide) rfl (fun ls hl => ?_)
          exact w88 (f_X6_stopHere_12 F sRo nq0 nq1 fq1 p1 n) ih x5 x5 g9 H locs ls hf hP hD hS (lv_sub hl [2, 3, 4, 5, 0, 6] rfl)
  have hen : entryFrame m args 8 = entryFrame m (([.ref (hRo 99), .int p1, .ref aq0, .ref aq1] : List Value).toArray) 8 := by rw [hargs]
  have hl := lv_entry ([.ref (hRo 99), .int p1, .ref aq0, .ref aq1]) (n := 8) (Nat.le_of_ble_eq_true rfl)
  rw [hen, lg_entry_eq]
  generalize (lg_sl ([.ref (hRo 99), .int p1, .ref aq0, .ref aq1]) ++ List.replicate (8 - (lg_sl ([.ref (hRo 99), .int p1, .ref aq0, .ref aq1])).length) Slot.unset).toArray = ls at hl ⊢
  have hl : lv_has ls 8 [(0, .ref (hRo 99)), (1, .int p1), (2, .ref aq0), (3, .ref aq1)] := hl
  unfold f_X6_stopHere at hf
  obtain ⟨H, hHe⟩ : ∃ z, z = s.heap := ⟨_, rfl⟩
  obtain ⟨locs, hLe⟩ : ∃ z : List Loc, z = [] := ⟨_, rfl⟩
  rw [← hLe]
  have hS : va_S A s.heap H locs := by rw [hHe, hLe]; exact hS
  have hP : va_P D vwCl (wRo K hRo sRo ++ wAJ K aq0 nq0 fq0 ++ wAJ K aq1 nq1 fq1) H := by rw [hHe]; exact hP
  have hgo : W p l e (headSpec wz_X6_stopHere r_X6_stopHere).room s m args below meth c H locs 0 0 Q (F0 m 0 ls []) := by
    refine lv_aload_n hx hb dX6_stopHere_0 rfl (lv_at hl 0 rfl) ?_
    refine va_get (D := D) (ci := 8) (v := .int (sRo.1 0)) (C := RX9) (T := TX9) (N := 19) hx hb hts iX9 hown hK hP 0 (rwl (rwl o_Ro)) rfl 0 (by decide) (htl _ (mB30 _ (List.mem_of_getElem? (i := 7) rfl))) (fun _ h9 => h9) rfl dX6_stopHere_1 ?_
    refine lv_istore (lv' := [(4, .int (sRo.1 0)), (0, .ref (hRo 99)), (1, .int p1), (2, .ref aq0), (3, .ref aq1)]) hx hb dX6_stopHere_4 hl (by decide) rfl (fun ls hl => ?_)
    refine lv_aload_n hx hb dX6_stopHere_6 rfl (lv_at hl 1 rfl) ?_
    refine va_get (D := D) (ci := 8) (v := .int (sRo.1 0)) (C := RX9) (T := TX9) (N := 19) hx hb hts iX9 hown hK hP 0 (rwl (rwl o_Ro)) rfl 0 (by decide) (htl _ (mB30 _ (List.mem_of_getElem? (i := 7) rfl))) (fun _ h9 => h9) rfl dX6_stopHere_7 ?_
    refine lv_istore (lv' := [(5, .int (sRo.1 0)), (4, .int (sRo.1 0)), (0, .ref (hRo 99)), (1, .int p1), (2, .ref aq0), (3, .ref aq1)]) hx hb dX6_stopHere_10 hl (by decide) rfl (fun ls hl => ?_)
    exact w12 F (sRo.1 0) (sRo.1 0) fq0 H locs ls hf hP hD hS (lv_sub hl [2, 3, 4, 5, 1, 0] rfl)
  rw [hHe] at hgo
  exact hgo

theorem gcS_X6_stopHere {T0 : Cond} {own : String} {i : Nat} (h : Cond.methodLink own i yX6_stopHere ∈ wsL_law) : GoodIn (T0 :: wsL_law) (va_wsS own i yX6_stopHere wz_X6_stopHere) := gS h (mB35 _ (List.mem_of_getElem? (i := 5) rfl)) (mB2 _ (List.mem_of_getElem? (i := 2) rfl)) (mB35 _ (List.mem_of_getElem? (i := 6) rfl))
theorem hdS_X6_stopHere : yX6_stopHere.cls ≠ "java/lang/invoke/MethodHandle" ∧ yX6_stopHere.cls ≠ "java/lang/invoke/VarHandle" ∧ (parseMethodDescriptor yX6_stopHere.desc).map (fun d => d.parameters.length) = some 4 := by decide +kernel
def wz_X6_lookByStops : List Cond := .code yX6_lookByStops cX6_lookByStops 4 none :: wsL_law
abbrev r_X6_lookByStops : Room := { frames := 2, cells := 0, slots := 0, locals := 50 }
set_option maxHeartbeats 4000000 in
set_option maxRecDepth 100000 in
theorem c_X6_lookByStops (l : Launch) (D : va_G) (K : Nat → ClassId) (F : Nat) (hPl : Nat → Nat) (gPl2 : Nat → Nat) (hPb : Nat → Nat) (hRo : Nat → Nat) (sz : Nat) (sPl : MS) (sPb : MS) (sRo : MS) (res : MS) (hf : f_X6_lookByStops F sPl sRo sPb = some res) : Met l yX6_lookByStops wz_X6_lookByStops r_X6_lookByStops (va_Pc [.ref (hPl 99), .ref (hRo 99)] (PW D K (wPl K hPl gPl2 hPb sPl ++ wPb K hPb sPb ++ wRo K hRo sRo) sz)) (va_Qv (fun u => u = res) (fun u t => BW D K (va_A (wPl K hPl gPl2 hPb sPl ++ wPb K hPb sPb ++ wRo K hRo sRo) sz) (wPl K hPl gPl2 hPb sPl ++ wPb K hPb u ++ wRo K hRo sRo) t) (va_A (wPl K hPl gPl2 hPb sPl ++ wPb K hPb sPb ++ wRo K hRo sRo) sz)) 0 0 (va_A (wPl K hPl gPl2 hPb sPl ++ wPb K hPb sPb ++ wRo K hRo sRo) sz) := by
  refine Met.ofW (cc := cX6_lookByStops) (maxL := 4) (ret := none) (by decide) rfl ?_
  intro p e s m args below meth c s₁ B hml hv
  obtain ⟨hargs, hsz, hP, hK, hD0⟩ := hv
  have hx := B.exec
  have hb := B.bytes
  have hr := B.returns
  have hts := atoms_spec (ws := wz_X6_lookByStops) B.pre
  have htl : ∀ w ∈ wsL_law, w.before args s = true := fun w h => hts w (List.mem_cons_of_mem _ h)
  have hown : s.vm.findClass RX6 = some m.cls := findClass_of_methodNamed B.named
  have hlocks := B.notSynchronized
  subst hsz
  have hD := hD0.self (sz := s.heap.size)
  generalize hAe : va_A (wPl K hPl gPl2 hPb sPl ++ wPb K hPb sPb ++ wRo K hRo sRo) s.heap.size = A at hD ⊢
  have hA : ∀ q : Nat, s.heap.size ≤ q → A q := fun q h => by rw [← hAe]; exact Or.inr h
  have hS : va_S A s.heap s.heap [] := va_S.rf
  have iX6 : ∀ w ∈ wsX60, w ∈ wz_X6_lookByStops := fun w h => List.mem_cons_of_mem _ (inlX6 w h)
  have iX9 : ∀ w ∈ wsX90, w ∈ wz_X6_lookByStops := fun w h => List.mem_cons_of_mem _ (inlX9 w h)
  suffices hgo : ∀ Q : State → Prop, Q = MQ below (va_Qv (fun u => u = res) (fun u t => BW D K A (wPl K hPl gPl2 hPb sPl ++ wPb K hPb u ++ wRo K hRo sRo) t) A) args s 0 0 A → W p l e (headSpec wz_X6_lookByStops r_X6_lookByStops).room s m args below meth c s.heap [] 0 0 Q (entryFrame m args 4) from hgo _ rfl
  intro Q hQ
  have w115 : ∀ (k31 : Int32 → MS → Option MS), (∀ (x2 : Int32), ∀ (sPb : MS), ∀ (H : Heap) (locs : List Loc) (ls : Array Slot), k31 x2 sPb = some res → va_P D vwCl (wPl K hPl gPl2 hPb sPl ++ wPb K hPb sPb ++ wRo K hRo sRo) H → va_D A (wPl K hPl gPl2 hPb sPl ++ wPb K hPb sPb ++ wRo K hRo sRo) → va_S A s.heap H locs → lv_has ls 4 [(0, .ref (hPl 99)), (1, .ref (hRo 99)), (2, .int x2)] → W p l e (headSpec wz_X6_lookByStops r_X6_lookByStops).room s m args below meth c H locs 0 0 Q (F0 m 31 ls [])) → ∀ (x2 : Int32), ∀ (sPb : MS), ∀ (H : Heap) (locs : List Loc) (ls : Array Slot), f_X6_lookByStops_115 F sPl sRo k31 x2 sPb = some res → va_P D vwCl (wPl K hPl gPl2 hPb sPl ++ wPb K hPb sPb ++ wRo K hRo sRo) H → va_D A (wPl K hPl gPl2 hPb sPl ++ wPb K hPb sPb ++ wRo K hRo sRo) → va_S A s.heap H locs → lv_has ls 4 [(0, .ref (hPl 99)), (1, .ref (hRo 99)), (2, .int x2)] → W p l e (headSpec wz_X6_lookByStops r_X6_lookByStops).room s m args below meth c H locs 0 0 Q (F0 m 115 ls []) := by
    intro k31 hk31 x2 sPb H locs ls hf hP hD hS hl
    unfold f_X6_lookByStops_115 at hf
    obtain ⟨v24, ev24⟩ : ∃ z : Int32, z = x2 + (-1 : Int32) := ⟨_, rfl⟩
    have hf := lz_s hf v24 ev24
    refine lv_iinc (v := v24) (lv' := [(2, .int v24), (0, .ref (hPl 99)), (1, .ref (hRo 99))]) hx hb dX6_lookByStops_115 hl (k := 2) rfl (by rw [ev24]; rfl) (by decide) rfl (fun ls hl => ?_)
    refine lv_goto (tgt := 31) hx hb dX6_lookByStops_118 (by decide) ?_
    exact hk31 v24 sPb H locs ls hf hP hD hS (lv_sub hl [1, 2, 0] rfl)
  have w81 : ∀ (k31 : Int32 → MS → Option MS), (∀ (x2 : Int32), ∀ (sPb : MS), ∀ (H : Heap) (locs : List Loc) (ls : Array Slot), k31 x2 sPb = some res → va_P D vwCl (wPl K hPl gPl2 hPb sPl ++ wPb K hPb sPb ++ wRo K hRo sRo) H → va_D A (wPl K hPl gPl2 hPb sPl ++ wPb K hPb sPb ++ wRo K hRo sRo) → va_S A s.heap H locs → lv_has ls 4 [(0, .ref (hPl 99)), (1, .ref (hRo 99)), (2, .int x2)] → W p l e (headSpec wz_X6_lookByStops r_X6_lookByStops).room s m args below meth c H locs 0 0 Q (F0 m 31 ls [])) → ∀ (n : Nat), ∀ (x2 : Int32), ∀ (x3 : Int32), ∀ (sPb : MS), ∀ (H : Heap) (locs : List Loc) (ls : Array Slot), f_X6_lookByStops_81 F sPl sRo k31 n x2 x3 sPb = some res → va_P D vwCl (wPl K hPl gPl2 hPb sPl ++ wPb K hPb sPb ++ wRo K hRo sRo) H → va_D A (wPl K hPl gPl2 hPb sPl ++ wPb K hPb sPb ++ wRo K hRo sRo) → va_S A s.heap H locs → lv_has ls 4 [(0, .ref (hPl 99)), (1, .ref (hRo 99)), (2, .int x2), (3, .int x3)] → W p l e (headSpec wz_X6_lookByStops r_X6_lookByStops).room s m args below meth c H locs 0 0 Q (F0 m 81 ls []) := by
    intro k31 hk31 n
    induction n with
    | zero =>
      intro x2 x3 sPb H locs ls hf
      exact absurd (show none = some res from hf) (fun h => nomatch h)
    | succ n ih =>
      intro x2 x3 sPb H locs ls hf hP hD hS hl
      rw [f_X6_lookByStops_81] at hf
      refine lv_iload_n hx hb dX6_lookByStops_81 rfl (lv_at hl 3 rfl) ?_
      refine lv_if_le (tgt := 115) hx hb dX6_lookByStops_82 (by decide) (fun c16 => ?_) (fun c16 => ?_)
      · have hf := it_t hf c16
        exact w115 k31 hk31 x2 sPb H locs ls hf hP hD hS (lv_sub hl [0, 1, 2] rfl)
      · have hf := it_f hf c16
        refine lv_aload_n hx hb dX6_lookByStops_85 rfl (lv_at hl 1 rfl) ?_
        refine lv_aload_n hx hb dX6_lookByStops_86 rfl (lv_at hl 1 rfl) ?_
        refine lv_iload_n hx hb dX6_lookByStops_87 rfl (lv_at hl 2 rfl) ?_
        refine lv_iconst (v := (0 : Int32)) hx hb dX6_lookByStops_88 (by decide) ?_
        obtain ⟨o17, go17, hf⟩ := bd_s hf
        refine ro_Vi (As := [.int x2, .int (0 : Int32)]) (rest := [.ref (hRo 99)]) ⟨hx, hb, hml, hown, hts⟩ (c_X9_priceAt l D K F hRo sRo x2 (0 : Int32) o17 go17) (cwV 2 hts (gcV_X9_priceAt (mB31 _ (List.mem_of_getElem? (i := 13) rfl))) rfl rfl rfl hdV_X9_priceAt ⟨Nat.le_of_ble_eq_true rfl, Nat.le_of_ble_eq_true rfl⟩) hK hP hS (va_PL (cs := [wPl K hPl gPl2 hPb sPl, wPb K hPb sPb, wRo K hRo sRo]) (cc := [wRo K hRo sRo]) hP (fl3 _ _ _) [2] rfl (fl1 _)) (va_recv hK hP (ci := 8) (q0 := ((5 + 10) + 0)) rfl (rwr (lnA ln_Pl ln_Pb) o_Ro)) rfl hl.1 rfl (Nat.le_of_ble_eq_true rfl) dX6_lookByStops_89 ⟨Nat.zero_le _, Nat.zero_le _⟩ (fun H locs hP hS => ?_)
        refine lv_aload_n hx hb dX6_lookByStops_92 rfl (lv_at hl 0 rfl) ?_
        refine va_get (D := D) (ci := 5) (v := .ref (hPl 3)) (C := RX6) (T := TX6) (N := 4) hx hb hts iX6 hown hK hP 0 (rwl (rwl o_Pl)) rfl 3 (by decide) (htl _ (mB4 _ (List.mem_of_getElem? (i := 5) rfl))) (fun _ h9 => h9) rfl dX6_lookByStops_93 ?_
        refine lv_iload_n hx hb dX6_lookByStops_96 rfl (lv_at hl 3 rfl) ?_
        obtain ⟨g18, hf⟩ := gd_s hf
        refine va_ald2 (r := hPb x3.toNatClampNeg) hx hb hK hP 4 4 (rwl (rwl a_Pl_3)) rfl (vpb_in g18) (if_pos (vpb_lt g18)) dX6_lookByStops_97 ?_
        refine lv_aload_n hx hb dX6_lookByStops_98 rfl (lv_at hl 0 rfl) ?_
        refine va_get (D := D) (ci := 5) (v := .ref (hPl 3)) (C := RX6) (T := TX6) (N := 4) hx hb hts iX6 hown hK hP 0 (rwl (rwl o_Pl)) rfl 3 (by decide) (htl _ (mB4 _ (List.mem_of_getElem? (i := 5) rfl))) (fun _ h9 => h9) rfl dX6_lookByStops_99 ?_
        refine lv_iload_n hx hb dX6_lookByStops_102 rfl (lv_at hl 3 rfl) ?_
        refine lv_iconst (v := (1 : Int32)) hx hb dX6_lookByStops_103 (by decide) ?_
        refine lv_isub hx hb dX6_lookByStops_104 ?_
        obtain ⟨g19, hf⟩ := gd_s hf
        refine va_ald2 (r := hPb ((x3 - (1 : Int32)).toNatClampNeg)) hx hb hK hP 4 4 (rwl (rwl a_Pl_3)) rfl (vpb_in g19) (if_pos (vpb_lt g19)) dX6_lookByStops_105 ?_
        obtain ⟨o20, go20, hf⟩ := bd_s hf
        obtain ⟨g21, hf⟩ := gd_s hf
        refine rd_Sv (wn := wPl K hPl gPl2 hPb sPl ++ wPb K hPb (wB (wB sPb x3.toNatClampNeg o20) ((x3 - (1 : Int32)).toNatClampNeg) (sPb.2.2.2 ((x3 - (1 : Int32)).toNatClampNeg))) ++ wRo K hRo sRo) (As := [.ref (hRo 99), .int o17, .ref (hPb x3.toNatClampNeg), .ref (hPb ((x3 - (1 : Int32)).toNatClampNeg))]) (rest := []) ⟨hx, hb, hml, hown, hts⟩ (c_X6_stopHere l D K F hRo (hPb x3.toNatClampNeg) 41 (hPb ((x3 - (1 : Int32)).toNatClampNeg)) 41 H.size sRo (sPb.2.2.2 x3.toNatClampNeg) (sPb.2.2.2 ((x3 - (1 : Int32)).toNatClampNeg)) o17 o20 go20) (va_cwS 4 hts (gcS_X6_stopHere (mB35 _ (List.mem_of_getElem? (i := 4) rfl))) rfl rfl rfl hdS_X6_stopHere ⟨Nat.le_of_ble_eq_true rfl, Nat.le_of_ble_eq_true rfl⟩) hK hP hD hS hA ([15, 16, 17, 18, 19, 20, 21, 22, 23, 24] ++ [(5 + x3.toNatClampNeg)] ++ [(5 + (x3 - (1 : Int32)).toNatClampNeg)]) (mapC (mapC rfl (map1 (rwl (rwr (n := 5) rfl (wPb_r x3.toNatClampNeg (vpb_lt g18)))))) (map1 (rwl (rwr (n := 5) rfl (wPb_r ((x3 - (1 : Int32)).toNatClampNeg) (vpb_lt g19)))))) ((show ∀ j9, j9 < 10 → ∀ j8, j8 < 10 → j9 ≠ j8 → va_nd ([15, 16, 17, 18, 19, 20, 21, 22, 23, 24] ++ [(5 + j9)] ++ [(5 + j8)]) = true by decide) _ (vpb_lt g18) _ (vpb_lt g19) (nbq g21)) rfl (show ((wPl K hPl gPl2 hPb sPl ++ wPb K hPb sPb ++ wRo K hRo sRo).set (5 + x3.toNatClampNeg) (hPb x3.toNatClampNeg, .inl (K 1, 41, .inr (.inl o20)))).set (5 + (x3 - (1 : Int32)).toNatClampNeg) (hPb ((x3 - (1 : Int32)).toNatClampNeg), .inl (K 1, 41, .inr (.inl (sPb.2.2.2 ((x3 - (1 : Int32)).toNatClampNeg))))) = _ from (congrArg (fun z => List.set z (5 + (x3 - (1 : Int32)).toNatClampNeg) (hPb ((x3 - (1 : Int32)).toNatClampNeg), .inl (K 1, 41, .inr (.inl (sPb.2.2.2 ((x3 - (1 : Int32)).toNatClampNeg)))))) (stl (str (n := 5) rfl (wPb_w x3.toNatClampNeg (vpb_lt g18))) (rlt (rwr (n := 5) rfl (wPb_r x3.toNatClampNeg (vpb_lt g18)))))).trans (stl (str (n := 5) rfl (wPb_w ((x3 - (1 : Int32)).toNatClampNeg) (vpb_lt g19))) (rlt (rwr (n := 5) rfl (wPb_r ((x3 - (1 : Int32)).toNatClampNeg) (vpb_lt g19)))))) rfl hl.1 rfl (Nat.le_of_ble_eq_true rfl) dX6_lookByStops_106 ⟨Nat.zero_le _, Nat.zero_le _⟩ (fun H locs hP hD hS => ?_)
        obtain ⟨s22, es22⟩ : ∃ z, z = (wB (wB sPb x3.toNatClampNeg o20) ((x3 - (1 : Int32)).toNatClampNeg) (sPb.2.2.2 ((x3 - (1 : Int32)).toNatClampNeg))) := ⟨_, rfl⟩
        have hP : va_P D vwCl (wPl K hPl gPl2 hPb sPl ++ wPb K hPb s22 ++ wRo K hRo sRo) H := by rw [es22]; exact hP
        have hD : va_D A (wPl K hPl gPl2 hPb sPl ++ wPb K hPb s22 ++ wRo K hRo sRo) := by rw [es22]; exact hD
        have hf := lz_s hf s22 es22
        obtain ⟨v23, ev23⟩ : ∃ z : Int32, z = x3 + (-1 : Int32) := ⟨_, rfl⟩
        have hf := lz_s hf v23 ev23
        refine lv_iinc (v := v23) (lv' := [(3, .int v23), (0, .ref (hPl 99)), (1, .ref (hRo 99)), (2, .int x2)]) hx hb dX6_lookByStops_109 hl (k := 3) rfl (by rw [ev23]; rfl) (by decide) rfl (fun ls hl => ?_)
        refine lv_goto (tgt := 81) hx hb dX6_lookByStops_112 (by decide) ?_
        exact ih x2 v23 s22 H locs ls hf hP hD hS (lv_sub hl [1, 2, 3, 0] rfl)
  have w70 : ∀ (k31 : Int32 → MS → Option MS), (∀ (x2 : Int32), ∀ (sPb : MS), ∀ (H : Heap) (locs : List Loc) (ls : Array Slot), k31 x2 sPb = some res → va_P D vwCl (wPl K hPl gPl2 hPb sPl ++ wPb K hPb sPb ++ wRo K hRo sRo) H → va_D A (wPl K hPl gPl2 hPb sPl ++ wPb K hPb sPb ++ wRo K hRo sRo) → va_S A s.heap H locs → lv_has ls 4 [(0, .ref (hPl 99)), (1, .ref (hRo 99)), (2, .int x2)] → W p l e (headSpec wz_X6_lookByStops r_X6_lookByStops).room s m args below meth c H locs 0 0 Q (F0 m 31 ls [])) → ∀ (x2 : Int32), ∀ (sPb : MS), ∀ (H : Heap) (locs : List Loc) (ls : Array Slot), f_X6_lookByStops_70 F sPl sRo k31 x2 sPb = some res → va_P D vwCl (wPl K hPl gPl2 hPb sPl ++ wPb K hPb sPb ++ wRo K hRo sRo) H → va_D A (wPl K hPl gPl2 hPb sPl ++ wPb K hPb sPb ++ wRo K hRo sRo) → va_S A s.heap H locs → lv_has ls 4 [(0, .ref (hPl 99)), (1, .ref (hRo 99)), (2, .int x2)] → W p l e (headSpec wz_X6_lookByStops r_X6_lookByStops).room s m args below meth c H locs 0 0 Q (F0 m 70 ls []) := by
    intro k31 hk31 x2 sPb H locs ls hf hP hD hS hl
    unfold f_X6_lookByStops_70 at hf
    refine lv_aload_n hx hb dX6_lookByStops_70 rfl (lv_at hl 1 rfl) ?_
    refine lv_iload_n hx hb dX6_lookByStops_71 rfl (lv_at hl 2 rfl) ?_
    obtain ⟨o14, go14, hf⟩ := bd_s hf
    refine ro_Vi (As := [.int x2]) (rest := []) ⟨hx, hb, hml, hown, hts⟩ (c_X9_hasPumpAt l D K F hRo sRo x2 o14 go14) (cwV 1 hts (gcV_X9_hasPumpAt (mB30 _ (List.mem_of_getElem? (i := 8) rfl))) rfl rfl rfl hdV_X9_hasPumpAt ⟨Nat.le_of_ble_eq_true rfl, Nat.le_of_ble_eq_true rfl⟩) hK hP hS (va_PL (cs := [wPl K hPl gPl2 hPb sPl, wPb K hPb sPb, wRo K hRo sRo]) (cc := [wRo K hRo sRo]) hP (fl3 _ _ _) [2] rfl (fl1 _)) (va_recv hK hP (ci := 8) (q0 := ((5 + 10) + 0)) rfl (rwr (lnA ln_Pl ln_Pb) o_Ro)) rfl hl.1 rfl (Nat.le_of_ble_eq_true rfl) dX6_lookByStops_72 ⟨Nat.zero_le _, Nat.zero_le _⟩ (fun H locs hP hS => ?_)
    refine lv_if_eq (tgt := 115) hx hb dX6_lookByStops_75 (by decide) (fun c15 => ?_) (fun c15 => ?_)
    · have hf := it_t hf c15
      exact w115 k31 hk31 x2 sPb H locs ls hf hP hD hS (lv_sub hl [0, 1, 2] rfl)
    · have hf := it_f hf c15
      refine lv_bipush (v := (9 : Int32)) hx hb dX6_lookByStops_78 (by decide) ?_
      refine lv_istore_n (lv' := [(3, .int (9 : Int32)), (0, .ref (hPl 99)), (1, .ref (hRo 99)), (2, .int x2)]) hx hb dX6_lookByStops_80 rfl hl (by decide) rfl (fun ls hl => ?_)
      exact w81 k31 hk31 F x2 (9 : Int32) sPb H locs ls hf hP hD hS (lv_sub hl [1, 2, 3, 0] rfl)
  have w37 : ∀ (k31 : Int32 → MS → Option MS), (∀ (x2 : Int32), ∀ (sPb : MS), ∀ (H : Heap) (locs : List Loc) (ls : Array Slot), k31 x2 sPb = some res → va_P D vwCl (wPl K hPl gPl2 hPb sPl ++ wPb K hPb sPb ++ wRo K hRo sRo) H → va_D A (wPl K hPl gPl2 hPb sPl ++ wPb K hPb sPb ++ wRo K hRo sRo) → va_S A s.heap H locs → lv_has ls 4 [(0, .ref (hPl 99)), (1, .ref (hRo 99)), (2, .int x2)] → W p l e (headSpec wz_X6_lookByStops r_X6_lookByStops).room s m args below meth c H locs 0 0 Q (F0 m 31 ls [])) → ∀ (n : Nat), ∀ (x2 : Int32), ∀ (x3 : Int32), ∀ (sPb : MS), ∀ (H : Heap) (locs : List Loc) (ls : Array Slot), f_X6_lookByStops_37 F sPl sRo k31 n x2 x3 sPb = some res → va_P D vwCl (wPl K hPl gPl2 hPb sPl ++ wPb K hPb sPb ++ wRo K hRo sRo) H → va_D A (wPl K hPl gPl2 hPb sPl ++ wPb K hPb sPb ++ wRo K hRo sRo) → va_S A s.heap H locs → lv_has ls 4 [(0, .ref (hPl 99)), (1, .ref (hRo 99)), (2, .int x2), (3, .int x3)] → W p l e (headSpec wz_X6_lookByStops r_X6_lookByStops).room s m args below meth c H locs 0 0 Q (F0 m 37 ls []) := by
    intro k31 hk31 n
    induction n with
    | zero =>
      intro x2 x3 sPb H locs ls hf
      exact absurd (show none = some res from hf) (fun h => nomatch h)
    | succ n ih =>
      intro x2 x3 sPb H locs ls hf hP hD hS hl
      rw [f_X6_lookByStops_37] at hf
      refine lv_iload_n hx hb dX6_lookByStops_37 rfl (lv_at hl 3 rfl) ?_
      refine lv_bipush (v := (9 : Int32)) hx hb dX6_lookByStops_38 (by decide) ?_
      refine lv_icmp_gt (tgt := 70) hx hb dX6_lookByStops_40 (by decide) (fun c8 => ?_) (fun c8 => ?_)
      · have hf := it_t hf c8
        exact w70 k31 hk31 x2 sPb H locs ls hf hP hD hS (lv_sub hl [0, 1, 2] rfl)
      · have hf := it_f hf c8
        refine lv_aload_n hx hb dX6_lookByStops_43 rfl (lv_at hl 0 rfl) ?_
        refine va_get (D := D) (ci := 5) (v := .ref (hPl 3)) (C := RX6) (T := TX6) (N := 4) hx hb hts iX6 hown hK hP 0 (rwl (rwl o_Pl)) rfl 3 (by decide) (htl _ (mB4 _ (List.mem_of_getElem? (i := 5) rfl))) (fun _ h9 => h9) rfl dX6_lookByStops_44 ?_
        refine lv_iload_n hx hb dX6_lookByStops_47 rfl (lv_at hl 3 rfl) ?_
        obtain ⟨g9, hf⟩ := gd_s hf
        refine va_ald2 (r := hPb x3.toNatClampNeg) hx hb hK hP 4 4 (rwl (rwl a_Pl_3)) rfl (vpb_in g9) (if_pos (vpb_lt g9)) dX6_lookByStops_48 ?_
        refine lv_aload_n hx hb dX6_lookByStops_49 rfl (lv_at hl 1 rfl) ?_
        refine va_get (D := D) (ci := 8) (v := .int (sRo.1 0)) (C := RX9) (T := TX9) (N := 19) hx hb hts iX9 hown hK hP ((5 + 10) + 0) (rwr (lnA ln_Pl ln_Pb) o_Ro) rfl 0 (by decide) (htl _ (mB30 _ (List.mem_of_getElem? (i := 7) rfl))) (fun _ h9 => h9) rfl dX6_lookByStops_50 ?_
        refine lv_aload_n hx hb dX6_lookByStops_53 rfl (lv_at hl 1 rfl) ?_
        refine lv_iload_n hx hb dX6_lookByStops_54 rfl (lv_at hl 2 rfl) ?_
        obtain ⟨o10, go10, hf⟩ := bd_s hf
        refine ro_Vi (As := [.int x2]) (rest := [.int (sRo.1 0), .ref (hPb x3.toNatClampNeg)]) ⟨hx, hb, hml, hown, hts⟩ (c_X9_legPints l D K F hRo sRo x2 o10 go10) (cwV 1 hts (gcV_X9_legPints (mB30 _ (List.mem_of_getElem? (i := 12) rfl))) rfl rfl rfl hdV_X9_legPints ⟨Nat.le_of_ble_eq_true rfl, Nat.le_of_ble_eq_true rfl⟩) hK hP hS (va_PL (cs := [wPl K hPl gPl2 hPb sPl, wPb K hPb sPb, wRo K hRo sRo]) (cc := [wRo K hRo sRo]) hP (fl3 _ _ _) [2] rfl (fl1 _)) (va_recv hK hP (ci := 8) (q0 := ((5 + 10) + 0)) rfl (rwr (lnA ln_Pl ln_Pb) o_Ro)) rfl hl.1 rfl (Nat.le_of_ble_eq_true rfl) dX6_lookByStops_55 ⟨Nat.zero_le _, Nat.zero_le _⟩ (fun H locs hP hS => ?_)
        refine lv_ldc2 (v := (1099511627776 : Int64)) hx hb hown (htl _ (mB32 _ (List.mem_of_getElem? (i := 9) rfl))) dX6_lookByStops_58 ?_
        obtain ⟨o11, go11, hf⟩ := bd_s hf
        refine rd_Sv (wn := wPl K hPl gPl2 hPb sPl ++ wPb K hPb (wB sPb x3.toNatClampNeg o11) ++ wRo K hRo sRo) (As := [.ref (hPb x3.toNatClampNeg), .int (sRo.1 0), .int o10, .long (1099511627776 : Int64)]) (rest := []) ⟨hx, hb, hml, hown, hts⟩ (c_X4_leave l D K F (hPb x3.toNatClampNeg) 41 H.size (sPb.2.2.2 x3.toNatClampNeg) (sRo.1 0) o10 (1099511627776 : Int64) o11 go11) (va_cwS 4 hts (gcS_X4_leave (mB32 _ (List.mem_of_getElem? (i := 13) rfl))) rfl rfl rfl hdS_X4_leave ⟨Nat.le_of_ble_eq_true rfl, Nat.le_of_ble_eq_true rfl⟩) hK hP hD hS hA ([(5 + x3.toNatClampNeg)]) (map1 (rwl (rwr (n := 5) rfl (wPb_r x3.toNatClampNeg (vpb_lt g9))))) ((show ∀ j9, j9 < 10 → va_nd ([(5 + j9)]) = true by decide) _ (vpb_lt g9)) rfl (show (wPl K hPl gPl2 hPb sPl ++ wPb K hPb sPb ++ wRo K hRo sRo).set (5 + x3.toNatClampNeg) (hPb x3.toNatClampNeg, .inl (K 1, 41, .inr (.inl o11))) = _ from stl (str (n := 5) rfl (wPb_w x3.toNatClampNeg (vpb_lt g9))) (rlt (rwr (n := 5) rfl (wPb_r x3.toNatClampNeg (vpb_lt g9))))) rfl hl.1 rfl (Nat.le_of_ble_eq_true rfl) dX6_lookByStops_61 ⟨Nat.zero_le _, Nat.zero_le _⟩ (fun H locs hP hD hS => ?_)
        obtain ⟨s12, es12⟩ : ∃ z, z = (wB sPb x3.toNatClampNeg o11) := ⟨_, rfl⟩
        have hP : va_P D vwCl (wPl K hPl gPl2 hPb sPl ++ wPb K hPb s12 ++ wRo K hRo sRo) H := by rw [es12]; exact hP
        have hD : va_D A (wPl K hPl gPl2 hPb sPl ++ wPb K hPb s12 ++ wRo K hRo sRo) := by rw [es12]; exact hD
        have hf := lz_s hf s12 es12
        obtain ⟨v13, ev13⟩ : ∃ z : Int32, z = x3 + (1 : Int32) := ⟨_, rfl⟩
        have hf := lz_s hf v13 ev13
        refine lv_iinc (v := v13) (lv' := [(3, .int v13), (0, .ref (hPl 99)), (1, .ref (hRo 99)), (2, .int x2)]) hx hb dX6_lookByStops_64 hl (k := 3) rfl (by rw [ev13]; rfl) (by decide) rfl (fun ls hl => ?_)
        refine lv_goto (tgt := 37) hx hb dX6_lookByStops_67 (by decide) ?_
        exact ih x2 v13 s12 H locs ls hf hP hD hS (lv_sub hl [1, 2, 3, 0] rfl)
  have w31 : ∀ (n : Nat), ∀ (x2 : Int32), ∀ (sPb : MS), ∀ (H : Heap) (locs : List Loc) (ls : Array Slot), f_X6_lookByStops_31 F sPl sRo n x2 sPb = some res → va_P D vwCl (wPl K hPl gPl2 hPb sPl ++ wPb K hPb sPb ++ wRo K hRo sRo) H → va_D A (wPl K hPl gPl2 hPb sPl ++ wPb K hPb sPb ++ wRo K hRo sRo) → va_S A s.heap H locs → lv_has ls 4 [(0, .ref (hPl 99)), (1, .ref (hRo 99)), (2, .int x2)] → W p l e (headSpec wz_X6_lookByStops r_X6_lookByStops).room s m args below meth c H locs 0 0 Q (F0 m 31 ls []) := by
    intro n
    induction n with
    | zero =>
      intro x2 sPb H locs ls hf
      exact absurd (show none = some res from hf) (fun h => nomatch h)
    | succ n ih =>
      intro x2 sPb H locs ls hf hP hD hS hl
      rw [f_X6_lookByStops_31] at hf
      refine lv_iload_n hx hb dX6_lookByStops_31 rfl (lv_at hl 2 rfl) ?_
      refine lv_if_lt (tgt := 121) hx hb dX6_lookByStops_32 (by decide) (fun c7 => ?_) (fun c7 => ?_)
      · have hf := it_t hf c7
        have e9 := Option.some.inj hf
        rw [hQ]
        exact W.vret hx hb hr (fun t ht hW => ⟨⟨sPb, rfl, e9, ⟨by rw [ht]; exact hP, va_K.moved hW.alike hK, hD⟩⟩, hS.F ht⟩) hS.2.2 dX6_lookByStops_121
      · have hf := it_f hf c7
        refine lv_iconst (v := (0 : Int32)) hx hb dX6_lookByStops_35 (by decide) ?_
        refine lv_istore_n (lv' := [(3, .int (0 : Int32)), (0, .ref (hPl 99)), (1, .ref (hRo 99)), (2, .int x2)]) hx hb dX6_lookByStops_36 rfl hl (by decide) rfl (fun ls hl => ?_)
        exact w37 (f_X6_lookByStops_31 F sPl sRo n) ih F x2 (0 : Int32) sPb H locs ls hf hP hD hS (lv_sub hl [1, 2, 3, 0] rfl)
  have w24 : ∀ (sPb : MS), ∀ (H : Heap) (locs : List Loc) (ls : Array Slot), f_X6_lookByStops_24 F sPl sRo sPb = some res → va_P D vwCl (wPl K hPl gPl2 hPb sPl ++ wPb K hPb sPb ++ wRo K hRo sRo) H → va_D A (wPl K hPl gPl2 hPb sPl ++ wPb K hPb sPb ++ wRo K hRo sRo) → va_S A s.heap H locs → lv_has ls 4 [(0, .ref (hPl 99)), (1, .ref (hRo 99))] → W p l e (headSpec wz_X6_lookByStops r_X6_lookByStops).room s m args below meth c H locs 0 0 Q (F0 m 24 ls []) := by
    intro sPb H locs ls hf hP hD hS hl
    unfold f_X6_lookByStops_24 at hf
    refine lv_aload_n hx hb dX6_lookByStops_24 rfl (lv_at hl 1 rfl) ?_
    refine va_get (D := D) (ci := 8) (v := .int (sRo.1 8)) (C := RX9) (T := TX9) (N := 19) hx hb hts iX9 hown hK hP ((5 + 10) + 0) (rwr (lnA ln_Pl ln_Pb) o_Ro) rfl 8 (by decide) (htl _ (mB30 _ (List.mem_of_getElem? (i := 6) rfl))) (fun _ h9 => h9) rfl dX6_lookByStops_25 ?_
    refine lv_iconst (v := (2 : Int32)) hx hb dX6_lookByStops_28 (by decide) ?_
    refine lv_isub hx hb dX6_lookByStops_29 ?_
    refine lv_topi (fun v6 ev6 => ?_)
    have hf := lz_s hf v6 ev6
    refine lv_istore_n (lv' := [(2, .int v6), (0, .ref (hPl 99)), (1, .ref (hRo 99))]) hx hb dX6_lookByStops_30 rfl hl (by decide) rfl (fun ls hl => ?_)
    exact w31 F v6 sPb H locs ls hf hP hD hS (lv_sub hl [1, 2, 0] rfl)
  have w2 : ∀ (n : Nat), ∀ (x2 : Int32), ∀ (sPb : MS), ∀ (H : Heap) (locs : List Loc) (ls : Array Slot), f_X6_lookByStops_2 F sPl sRo n x2 sPb = some res → va_P D vwCl (wPl K hPl gPl2 hPb sPl ++ wPb K hPb sPb ++ wRo K hRo sRo) H → va_D A (wPl K hPl gPl2 hPb sPl ++ wPb K hPb sPb ++ wRo K hRo sRo) → va_S A s.heap H locs → lv_has ls 4 [(0, .ref (hPl 99)), (1, .ref (hRo 99)), (2, .int x2)] → W p l e (headSpec wz_X6_lookByStops r_X6_lookByStops).room s m args below meth c H locs 0 0 Q (F0 m 2 ls []) := by
    intro n
    induction n with
    | zero =>
      intro x2 sPb H locs ls hf
      exact absurd (show none = some res from hf) (fun h => nomatch h)
    | succ n ih =>
      intro x2 sPb H locs ls hf hP hD hS hl
      rw [f_X6_lookByStops_2] at hf
      refine lv_iload_n hx hb dX6_lookByStops_2 rfl (lv_at hl 2 rfl) ?_
      refine lv_bipush (v := (9 : Int32)) hx hb dX6_lookByStops_3 (by decide) ?_
      refine lv_icmp_gt (tgt := 24) hx hb dX6_lookByStops_5 (by decide) (fun c1 => ?_) (fun c1 => ?_)
      · have hf := it_t hf c1
        exact w24 sPb H locs ls hf hP hD hS (lv_sub hl [0, 1] rfl)
      · have hf := it_f hf c1
        refine lv_aload_n hx hb dX6_lookByStops_8 rfl (lv_at hl 0 rfl) ?_
        refine va_get (D := D) (ci := 5) (v := .ref (hPl 3)) (C := RX6) (T := TX6) (N := 4) hx hb hts iX6 hown hK hP 0 (rwl (rwl o_Pl)) rfl 3 (by decide) (htl _ (mB4 _ (List.mem_of_getElem? (i := 5) rfl))) (fun _ h9 => h9) rfl dX6_lookByStops_9 ?_
        refine lv_iload_n hx hb dX6_lookByStops_12 rfl (lv_at hl 2 rfl) ?_
        obtain ⟨g2, hf⟩ := gd_s hf
        refine va_ald2 (r := hPb x2.toNatClampNeg) hx hb hK hP 4 4 (rwl (rwl a_Pl_3)) rfl (vpb_in g2) (if_pos (vpb_lt g2)) dX6_lookByStops_13 ?_
        refine lv_lconst (v := (0 : Int64)) hx hb dX6_lookByStops_14 (by decide) ?_
        obtain ⟨o3, go3, hf⟩ := bd_s hf
        refine rd_Sv (wn := wPl K hPl gPl2 hPb sPl ++ wPb K hPb (wB sPb x2.toNatClampNeg o3) ++ wRo K hRo sRo) (As := [.ref (hPb x2.toNatClampNeg), .long (0 : Int64)]) (rest := []) ⟨hx, hb, hml, hown, hts⟩ (c_J7_fill_d0a16 l D K F (hPb x2.toNatClampNeg) 41 H.size (sPb.2.2.2 x2.toNatClampNeg) (0 : Int64) o3 go3) (va_cwS 2 hts (gcS_J7_fill_d0a16 (mB32 _ (List.mem_of_getElem? (i := 10) rfl))) rfl rfl rfl hdS_J7_fill_d0a16 ⟨Nat.le_of_ble_eq_true rfl, Nat.le_of_ble_eq_true rfl⟩) hK hP hD hS hA ([(5 + x2.toNatClampNeg)]) (map1 (rwl (rwr (n := 5) rfl (wPb_r x2.toNatClampNeg (vpb_lt g2))))) ((show ∀ j9, j9 < 10 → va_nd ([(5 + j9)]) = true by decide) _ (vpb_lt g2)) rfl (show (wPl K hPl gPl2 hPb sPl ++ wPb K hPb sPb ++ wRo K hRo sRo).set (5 + x2.toNatClampNeg) (hPb x2.toNatClampNeg, .inl (K 1, 41, .inr (.inl o3))) = _ from stl (str (n := 5) rfl (wPb_w x2.toNatClampNeg (vpb_lt g2))) (rlt (rwr (n := 5) rfl (wPb_r x2.toNatClampNeg (vpb_lt g2))))) rfl hl.1 rfl (Nat.le_of_ble_eq_true rfl) dX6_lookByStops_15 ⟨Nat.zero_le _, Nat.zero_le _⟩ (fun H locs hP hD hS => ?_)
        obtain ⟨s4, es4⟩ : ∃ z, z = (wB sPb x2.toNatClampNeg o3) := ⟨_, rfl⟩
        have hP : va_P D vwCl (wPl K hPl gPl2 hPb sPl ++ wPb K hPb s4 ++ wRo K hRo sRo) H := by rw [es4]; exact hP
        have hD : va_D A (wPl K hPl gPl2 hPb sPl ++ wPb K hPb s4 ++ wRo K hRo sRo) := by rw [es4]; exact hD
        have hf := lz_s hf s4 es4
        obtain ⟨v5, ev5⟩ : ∃ z : Int32, z = x2 + (1 : Int32) := ⟨_, rfl⟩
        have hf := lz_s hf v5 ev5
        refine lv_iinc (v := v5) (lv' := [(2, .int v5), (0, .ref (hPl 99)), (1, .ref (hRo 99))]) hx hb dX6_lookByStops_18 hl (k := 2) rfl (by rw [ev5]; rfl) (by decide) rfl (fun ls hl => ?_)
        refine lv_goto (tgt := 2) hx hb dX6_lookByStops_21 (by decide) ?_
        exact ih v5 s4 H locs ls hf hP hD hS (lv_sub hl [1, 2, 0] rfl)
  have hen : entryFrame m args 4 = entryFrame m (([.ref (hPl 99), .ref (hRo 99)] : List Value).toArray) 4 := by rw [hargs]
  have hl := lv_entry ([.ref (hPl 99), .ref (hRo 99)]) (n := 4) (Nat.le_of_ble_eq_true rfl)
  rw [hen, lg_entry_eq]
  generalize (lg_sl ([.ref (hPl 99), .ref (hRo 99)]) ++ List.replicate (4 - (lg_sl ([.ref (hPl 99), .ref (hRo 99)])).length) Slot.unset).toArray = ls at hl ⊢
  have hl : lv_has ls 4 [(0, .ref (hPl 99)), (1, .ref (hRo 99))] := hl
  unfold f_X6_lookByStops at hf
  obtain ⟨H, hHe⟩ : ∃ z, z = s.heap := ⟨_, rfl⟩
  obtain ⟨locs, hLe⟩ : ∃ z : List Loc, z = [] := ⟨_, rfl⟩
  rw [← hLe]
  have hS : va_S A s.heap H locs := by rw [hHe, hLe]; exact hS
  have hP : va_P D vwCl (wPl K hPl gPl2 hPb sPl ++ wPb K hPb sPb ++ wRo K hRo sRo) H := by rw [hHe]; exact hP
  have hgo : W p l e (headSpec wz_X6_lookByStops r_X6_lookByStops).room s m args below meth c H locs 0 0 Q (F0 m 0 ls []) := by
    refine lv_iconst (v := (0 : Int32)) hx hb dX6_lookByStops_0 (by decide) ?_
    refine lv_istore_n (lv' := [(2, .int (0 : Int32)), (0, .ref (hPl 99)), (1, .ref (hRo 99))]) hx hb dX6_lookByStops_1 rfl hl (by decide) rfl (fun ls hl => ?_)
    exact w2 F (0 : Int32) sPb H locs ls hf hP hD hS (lv_sub hl [1, 2, 0] rfl)
  rw [hHe] at hgo
  exact hgo

theorem gcV_X6_lookByStops {T0 : Cond} {own : String} {i : Nat} (h : Cond.methodLink own i yX6_lookByStops ∈ wsL_law) : GoodIn (T0 :: wsL_law) (wsV own i RX6 yX6_lookByStops wz_X6_lookByStops) := gV h (mB35 _ (List.mem_of_getElem? (i := 1) rfl)) (mB35 _ (List.mem_of_getElem? (i := 2) rfl)) (mB2 _ (List.mem_of_getElem? (i := 2) rfl)) (mB35 _ (List.mem_of_getElem? (i := 3) rfl))
theorem hdV_X6_lookByStops : yX6_lookByStops.cls = RX6 ∧ yX6_lookByStops.cls ≠ "java/lang/invoke/MethodHandle" ∧ yX6_lookByStops.cls ≠ "java/lang/invoke/VarHandle" ∧ (parseMethodDescriptor yX6_lookByStops.desc).map (fun d => d.parameters.length) = some 1 := by decide +kernel
def wz_X6_leastWithin : List Cond := .code yX6_leastWithin cX6_leastWithin 3 (some .int) :: wsL_law
abbrev r_X6_leastWithin : Room := { frames := 3, cells := 0, slots := 0, locals := 73 }
set_option maxHeartbeats 4000000 in
set_option maxRecDepth 100000 in
theorem c_X6_leastWithin (l : Launch) (D : va_G) (K : Nat → ClassId) (F : Nat) (hPl : Nat → Nat) (gPl2 : Nat → Nat) (hPb : Nat → Nat) (hRo : Nat → Nat) (sz : Nat) (sPl : MS) (sPb : MS) (sRo : MS) (p2 : Int32) (res : Int32 × MS) (hf : f_X6_leastWithin F sPl sRo p2 sPb = some res) : Met l yX6_leastWithin wz_X6_leastWithin r_X6_leastWithin (va_Pc [.ref (hPl 99), .ref (hRo 99), .int p2] (PW D K (wPl K hPl gPl2 hPb sPl ++ wPb K hPb sPb ++ wRo K hRo sRo) sz)) (va_Qi (fun r u => r = res.1 ∧ u = res.2) (fun u t => BW D K (va_A (wPl K hPl gPl2 hPb sPl ++ wPb K hPb sPb ++ wRo K hRo sRo) sz) (wPl K hPl gPl2 hPb sPl ++ wPb K hPb u ++ wRo K hRo sRo) t) (va_A (wPl K hPl gPl2 hPb sPl ++ wPb K hPb sPb ++ wRo K hRo sRo) sz)) 0 0 (va_A (wPl K hPl gPl2 hPb sPl ++ wPb K hPb sPb ++ wRo K hRo sRo) sz) := by
  refine Met.ofW (cc := cX6_leastWithin) (maxL := 3) (ret := (some .int)) (by decide) rfl ?_
  intro p e s m args below meth c s₁ B hml hv
  obtain ⟨hargs, hsz, hP, hK, hD0⟩ := hv
  have hx := B.exec
  have hb := B.bytes
  have hr := B.returns
  have hts := atoms_spec (ws := wz_X6_leastWithin) B.pre
  have htl : ∀ w ∈ wsL_law, w.before args s = true := fun w h => hts w (List.mem_cons_of_mem _ h)
  have hown : s.vm.findClass RX6 = some m.cls := findClass_of_methodNamed B.named
  have hlocks := B.notSynchronized
  subst hsz
  have hD := hD0.self (sz := s.heap.size)
  generalize hAe : va_A (wPl K hPl gPl2 hPb sPl ++ wPb K hPb sPb ++ wRo K hRo sRo) s.heap.size = A at hD ⊢
  have hA : ∀ q : Nat, s.heap.size ≤ q → A q := fun q h => by rw [← hAe]; exact Or.inr h
  have hS : va_S A s.heap s.heap [] := va_S.rf
  have iX6 : ∀ w ∈ wsX60, w ∈ wz_X6_leastWithin := fun w h => List.mem_cons_of_mem _ (inlX6 w h)
  have iX9 : ∀ w ∈ wsX90, w ∈ wz_X6_leastWithin := fun w h => List.mem_cons_of_mem _ (inlX9 w h)
  suffices hgo : ∀ Q : State → Prop, Q = MQ below (va_Qi (fun r u => r = res.1 ∧ u = res.2) (fun u t => BW D K A (wPl K hPl gPl2 hPb sPl ++ wPb K hPb u ++ wRo K hRo sRo) t) A) args s 0 0 A → W p l e (headSpec wz_X6_leastWithin r_X6_leastWithin).room s m args below meth c s.heap [] 0 0 Q (entryFrame m args 3) from hgo _ rfl
  intro Q hQ
  have hen : entryFrame m args 3 = entryFrame m (([.ref (hPl 99), .ref (hRo 99), .int p2] : List Value).toArray) 3 := by rw [hargs]
  have hl := lv_entry ([.ref (hPl 99), .ref (hRo 99), .int p2]) (n := 3) (Nat.le_of_ble_eq_true rfl)
  rw [hen, lg_entry_eq]
  generalize (lg_sl ([.ref (hPl 99), .ref (hRo 99), .int p2]) ++ List.replicate (3 - (lg_sl ([.ref (hPl 99), .ref (hRo 99), .int p2])).length) Slot.unset).toArray = ls at hl ⊢
  have hl : lv_has ls 3 [(0, .ref (hPl 99)), (1, .ref (hRo 99)), (2, .int p2)] := hl
  unfold f_X6_leastWithin at hf
  obtain ⟨H, hHe⟩ : ∃ z, z = s.heap := ⟨_, rfl⟩
  obtain ⟨locs, hLe⟩ : ∃ z : List Loc, z = [] := ⟨_, rfl⟩
  rw [← hLe]
  have hS : va_S A s.heap H locs := by rw [hHe, hLe]; exact hS
  have hP : va_P D vwCl (wPl K hPl gPl2 hPb sPl ++ wPb K hPb sPb ++ wRo K hRo sRo) H := by rw [hHe]; exact hP
  have hgo : W p l e (headSpec wz_X6_leastWithin r_X6_leastWithin).room s m args below meth c H locs 0 0 Q (F0 m 0 ls []) := by
    refine lv_aload_n hx hb dX6_leastWithin_0 rfl (lv_at hl 0 rfl) ?_
    refine lv_aload_n hx hb dX6_leastWithin_1 rfl (lv_at hl 1 rfl) ?_
    obtain ⟨o1, go1, hf⟩ := bd_s hf
    refine rs_Vv (As := [.ref (hRo 99)]) (rest := []) ⟨hx, hb, hml, hown, hts⟩ (c_X6_lookByStops l D K F hPl gPl2 hPb hRo H.size sPl sPb sRo o1 go1) (cwV 1 hts (gcV_X6_lookByStops (mB35 _ (List.mem_of_getElem? (i := 0) rfl))) rfl rfl rfl hdV_X6_lookByStops ⟨Nat.le_of_ble_eq_true rfl, Nat.le_of_ble_eq_true rfl⟩) hK hP hD hS hA (va_recv hK hP (ci := 5) (q0 := 0) rfl (rwl (rwl o_Pl))) rfl hl.1 rfl (Nat.le_of_ble_eq_true rfl) dX6_leastWithin_2 ⟨Nat.zero_le _, Nat.zero_le _⟩ (fun H locs hP hD hS => ?_)
    have hP : va_P D vwCl (wPl K hPl gPl2 hPb sPl ++ wPb K hPb o1 ++ wRo K hRo sRo) H := hP
    have hD : va_D A (wPl K hPl gPl2 hPb sPl ++ wPb K hPb o1 ++ wRo K hRo sRo) := hD
    refine lv_aload_n hx hb dX6_leastWithin_5 rfl (lv_at hl 0 rfl) ?_
    refine va_get (D := D) (ci := 5) (v := .ref (hPl 3)) (C := RX6) (T := TX6) (N := 4) hx hb hts iX6 hown hK hP 0 (rwl (rwl o_Pl)) rfl 3 (by decide) (htl _ (mB4 _ (List.mem_of_getElem? (i := 5) rfl))) (fun _ h9 => h9) rfl dX6_leastWithin_6 ?_
    refine lv_iload_n hx hb dX6_leastWithin_9 rfl (lv_at hl 2 rfl) ?_
    obtain ⟨g2, hf⟩ := gd_s hf
    refine va_ald2 (r := hPb p2.toNatClampNeg) hx hb hK hP 4 4 (rwl (rwl a_Pl_3)) rfl (vpb_in g2) (if_pos (vpb_lt g2)) dX6_leastWithin_10 ?_
    refine lv_aload_n hx hb dX6_leastWithin_11 rfl (lv_at hl 1 rfl) ?_
    refine va_get (D := D) (ci := 8) (v := .int (sRo.1 1)) (C := RX9) (T := TX9) (N := 19) hx hb hts iX9 hown hK hP ((5 + 10) + 0) (rwr (lnA ln_Pl ln_Pb) o_Ro) rfl 1 (by decide) (htl _ (mB30 _ (List.mem_of_getElem? (i := 5) rfl))) (fun _ h9 => h9) rfl dX6_leastWithin_12 ?_
    obtain ⟨g3, hf⟩ := gd_s hf
    refine va_lald hx hb hK hP (5 + p2.toNatClampNeg) 1 (f := o1.2.2.2 p2.toNatClampNeg) (rwl (rwr (n := 5) rfl (wPb_r p2.toNatClampNeg (vpb_lt g2)))) rfl (vpb_in g3) dX6_leastWithin_15 ?_
    refine lv_topl (fun v4 ev4 => ?_)
    have hf := lz_s hf v4 ev4
    obtain ⟨o5, go5, hf⟩ := bd_s hf
    refine ro_Si (As := [.long v4]) (rest := []) ⟨hx, hb, hml, hown, hts⟩ (c_X6_answer l D K F v4 o5 go5) (va_cwS 1 hts (gcS_X6_answer (mB33 _ (List.mem_of_getElem? (i := 6) rfl))) rfl rfl rfl hdS_X6_answer ⟨Nat.le_of_ble_eq_true rfl, Nat.le_of_ble_eq_true rfl⟩) hK hP hS va_Pnil rfl hl.1 rfl (Nat.le_of_ble_eq_true rfl) dX6_leastWithin_16 ⟨Nat.zero_le _, Nat.zero_le _⟩ (fun H locs hP hS => ?_)
    have e9 := Option.some.inj hf
    rw [hQ]
    exact W.iret (v := o5) hx hb hr (fun t ht hW => ⟨⟨o5, o1, rfl, ⟨pr1 e9, pr2 e9⟩, ⟨by rw [ht]; exact hP, va_K.moved hW.alike hK, hD⟩⟩, hS.F ht⟩) hS.2.2 dX6_leastWithin_19
  rw [hHe] at hgo
  exact hgo

def wz_X6_fewestStops : List Cond := .code yX6_fewestStops cX6_fewestStops 3 (some .int) :: wsL_law
abbrev r_X6_fewestStops : Room := { frames := 3, cells := 0, slots := 0, locals := 73 }
set_option maxHeartbeats 4000000 in
set_option maxRecDepth 100000 in
theorem c_X6_fewestStops (l : Launch) (D : va_G) (K : Nat → ClassId) (F : Nat) (hPl : Nat → Nat) (gPl2 : Nat → Nat) (hPb : Nat → Nat) (hRo : Nat → Nat) (sz : Nat) (sPl : MS) (sPb : MS) (sRo : MS) (res : Int32 × MS) (hf : f_X6_fewestStops F sPl sRo sPb = some res) : Met l yX6_fewestStops wz_X6_fewestStops r_X6_fewestStops (va_Pc [.ref (hPl 99), .ref (hRo 99)] (PW D K (wPl K hPl gPl2 hPb sPl ++ wPb K hPb sPb ++ wRo K hRo sRo) sz)) (va_Qi (fun r u => r = res.1 ∧ u = res.2) (fun u t => BW D K (va_A (wPl K hPl gPl2 hPb sPl ++ wPb K hPb sPb ++ wRo K hRo sRo) sz) (wPl K hPl gPl2 hPb sPl ++ wPb K hPb u ++ wRo K hRo sRo) t) (va_A (wPl K hPl gPl2 hPb sPl ++ wPb K hPb sPb ++ wRo K hRo sRo) sz)) 0 0 (va_A (wPl K hPl gPl2 hPb sPl ++ wPb K hPb sPb ++ wRo K hRo sRo) sz) := by
  refine Met.ofW (cc := cX6_fewestStops) (maxL := 3) (ret := (some .int)) (by decide) rfl ?_
  intro p e s m args below meth c s₁ B hml hv
  obtain ⟨hargs, hsz, hP, hK, hD0⟩ := hv
  have hx := B.exec
  have hb := B.bytes
  have hr := B.returns
  have hts := atoms_spec (ws := wz_X6_fewestStops) B.pre
  have htl : ∀ w ∈ wsL_law, w.before args s = true := fun w h => hts w (List.mem_cons_of_mem _ h)
  have hown : s.vm.findClass RX6 = some m.cls := findClass_of_methodNamed B.named
  have hlocks := B.notSynchronized
  subst hsz
  have hD := hD0.self (sz := s.heap.size)
  generalize hAe : va_A (wPl K hPl gPl2 hPb sPl ++ wPb K hPb sPb ++ wRo K hRo sRo) s.heap.size = A at hD ⊢
  have hA : ∀ q : Nat, s.heap.size ≤ q → A q := fun q h => by rw [← hAe]; exact Or.inr h
  have hS : va_S A s.heap s.heap [] := va_S.rf
  have iX6 : ∀ w ∈ wsX60, w ∈ wz_X6_fewestStops := fun w h => List.mem_cons_of_mem _ (inlX6 w h)
  have iX9 : ∀ w ∈ wsX90, w ∈ wz_X6_fewestStops := fun w h => List.mem_cons_of_mem _ (inlX9 w h)
  suffices hgo : ∀ Q : State → Prop, Q = MQ below (va_Qi (fun r u => r = res.1 ∧ u = res.2) (fun u t => BW D K A (wPl K hPl gPl2 hPb sPl ++ wPb K hPb u ++ wRo K hRo sRo) t) A) args s 0 0 A → W p l e (headSpec wz_X6_fewestStops r_X6_fewestStops).room s m args below meth c s.heap [] 0 0 Q (entryFrame m args 3) from hgo _ rfl
  intro Q hQ
  have w7 : ∀ (n : Nat), ∀ (x2 : Int32), ∀ (sPb : MS), ∀ (H : Heap) (locs : List Loc) (ls : Array Slot), f_X6_fewestStops_7 F sPl sRo n x2 sPb = some res → va_P D vwCl (wPl K hPl gPl2 hPb sPl ++ wPb K hPb sPb ++ wRo K hRo sRo) H → va_D A (wPl K hPl gPl2 hPb sPl ++ wPb K hPb sPb ++ wRo K hRo sRo) → va_S A s.heap H locs → lv_has ls 3 [(0, .ref (hPl 99)), (1, .ref (hRo 99)), (2, .int x2)] → W p l e (headSpec wz_X6_fewestStops r_X6_fewestStops).room s m args below meth c H locs 0 0 Q (F0 m 7 ls []) := by
    intro n
    induction n with
    | zero =>
      intro x2 sPb H locs ls hf
      exact absurd (show none = some res from hf) (fun h => nomatch h)
    | succ n ih =>
      intro x2 sPb H locs ls hf hP hD hS hl
      rw [f_X6_fewestStops_7] at hf
      refine lv_iload_n hx hb dX6_fewestStops_7 rfl (lv_at hl 2 rfl) ?_
      refine lv_bipush (v := (9 : Int32)) hx hb dX6_fewestStops_8 (by decide) ?_
      refine lv_icmp_gt (tgt := 39) hx hb dX6_fewestStops_10 (by decide) (fun c2 => ?_) (fun c2 => ?_)
      · have hf := it_t hf c2
        refine lv_bipush (v := (-2 : Int32)) hx hb dX6_fewestStops_39 (by decide) ?_
        have e9 := Option.some.inj hf
        rw [hQ]
        exact W.iret (v := (-2 : Int32)) hx hb hr (fun t ht hW => ⟨⟨(-2 : Int32), sPb, rfl, ⟨pr1 e9, pr2 e9⟩, ⟨by rw [ht]; exact hP, va_K.moved hW.alike hK, hD⟩⟩, hS.F ht⟩) hS.2.2 dX6_fewestStops_41
      · have hf := it_f hf c2
        refine lv_aload_n hx hb dX6_fewestStops_13 rfl (lv_at hl 0 rfl) ?_
        refine va_get (D := D) (ci := 5) (v := .ref (hPl 3)) (C := RX6) (T := TX6) (N := 4) hx hb hts iX6 hown hK hP 0 (rwl (rwl o_Pl)) rfl 3 (by decide) (htl _ (mB4 _ (List.mem_of_getElem? (i := 5) rfl))) (fun _ h9 => h9) rfl dX6_fewestStops_14 ?_
        refine lv_iload_n hx hb dX6_fewestStops_17 rfl (lv_at hl 2 rfl) ?_
        obtain ⟨g3, hf⟩ := gd_s hf
        refine va_ald2 (r := hPb x2.toNatClampNeg) hx hb hK hP 4 4 (rwl (rwl a_Pl_3)) rfl (vpb_in g3) (if_pos (vpb_lt g3)) dX6_fewestStops_18 ?_
        refine lv_aload_n hx hb dX6_fewestStops_19 rfl (lv_at hl 1 rfl) ?_
        refine va_get (D := D) (ci := 8) (v := .int (sRo.1 1)) (C := RX9) (T := TX9) (N := 19) hx hb hts iX9 hown hK hP ((5 + 10) + 0) (rwr (lnA ln_Pl ln_Pb) o_Ro) rfl 1 (by decide) (htl _ (mB30 _ (List.mem_of_getElem? (i := 5) rfl))) (fun _ h9 => h9) rfl dX6_fewestStops_20 ?_
        obtain ⟨g4, hf⟩ := gd_s hf
        refine va_lald hx hb hK hP (5 + x2.toNatClampNeg) 1 (f := sPb.2.2.2 x2.toNatClampNeg) (rwl (rwr (n := 5) rfl (wPb_r x2.toNatClampNeg (vpb_lt g3)))) rfl (vpb_in g4) dX6_fewestStops_23 ?_
        refine lv_topl (fun v5 ev5 => ?_)
        have hf := lz_s hf v5 ev5
        refine lv_ldc2 (v := (1099511627776 : Int64)) hx hb hown (htl _ (mB32 _ (List.mem_of_getElem? (i := 9) rfl))) dX6_fewestStops_24 ?_
        refine W.lcmp hx hb dX6_fewestStops_27 ?_
        refine lv_if_ge (tgt := 33) hx hb dX6_fewestStops_28 (by decide) (fun c6 => ?_) (fun c6 => ?_)
        · have hf := it_t hf c6
          obtain ⟨v7, ev7⟩ : ∃ z : Int32, z = x2 + (1 : Int32) := ⟨_, rfl⟩
          have hf := lz_s hf v7 ev7
          refine lv_iinc (v := v7) (lv' := [(2, .int v7), (0, .ref (hPl 99)), (1, .ref (hRo 99))]) hx hb dX6_fewestStops_33 hl (k := 2) rfl (by rw [ev7]; rfl) (by decide) rfl (fun ls hl => ?_)
          refine lv_goto (tgt := 7) hx hb dX6_fewestStops_36 (by decide) ?_
          exact ih v7 sPb H locs ls hf hP hD hS (lv_sub hl [1, 2, 0] rfl)
        · have hf := it_f hf c6
          refine lv_iload_n hx hb dX6_fewestStops_31 rfl (lv_at hl 2 rfl) ?_
          have e9 := Option.some.inj hf
          rw [hQ]
          exact W.iret (v := x2) hx hb hr (fun t ht hW => ⟨⟨x2, sPb, rfl, ⟨pr1 e9, pr2 e9⟩, ⟨by rw [ht]; exact hP, va_K.moved hW.alike hK, hD⟩⟩, hS.F ht⟩) hS.2.2 dX6_fewestStops_32
  have hen : entryFrame m args 3 = entryFrame m (([.ref (hPl 99), .ref (hRo 99)] : List Value).toArray) 3 := by rw [hargs]
  have hl := lv_entry ([.ref (hPl 99), .ref (hRo 99)]) (n := 3) (Nat.le_of_ble_eq_true rfl)
  rw [hen, lg_entry_eq]
  generalize (lg_sl ([.ref (hPl 99), .ref (hRo 99)]) ++ List.replicate (3 - (lg_sl ([.ref (hPl 99), .ref (hRo 99)])).length) Slot.unset).toArray = ls at hl ⊢
  have hl : lv_has ls 3 [(0, .ref (hPl 99)), (1, .ref (hRo 99))] := hl
  unfold f_X6_fewestStops at hf
  obtain ⟨H, hHe⟩ : ∃ z, z = s.heap := ⟨_, rfl⟩
  obtain ⟨locs, hLe⟩ : ∃ z : List Loc, z = [] := ⟨_, rfl⟩
  rw [← hLe]
  have hS : va_S A s.heap H locs := by rw [hHe, hLe]; exact hS
  have hP : va_P D vwCl (wPl K hPl gPl2 hPb sPl ++ wPb K hPb sPb ++ wRo K hRo sRo) H := by rw [hHe]; exact hP
  have hgo : W p l e (headSpec wz_X6_fewestStops r_X6_fewestStops).room s m args below meth c H locs 0 0 Q (F0 m 0 ls []) := by
    refine lv_aload_n hx hb dX6_fewestStops_0 rfl (lv_at hl 0 rfl) ?_
    refine lv_aload_n hx hb dX6_fewestStops_1 rfl (lv_at hl 1 rfl) ?_
    obtain ⟨o1, go1, hf⟩ := bd_s hf
    refine rs_Vv (As := [.ref (hRo 99)]) (rest := []) ⟨hx, hb, hml, hown, hts⟩ (c_X6_lookByStops l D K F hPl gPl2 hPb hRo H.size sPl sPb sRo o1 go1) (cwV 1 hts (gcV_X6_lookByStops (mB35 _ (List.mem_of_getElem? (i := 0) rfl))) rfl rfl rfl hdV_X6_lookByStops ⟨Nat.le_of_ble_eq_true rfl, Nat.le_of_ble_eq_true rfl⟩) hK hP hD hS hA (va_recv hK hP (ci := 5) (q0 := 0) rfl (rwl (rwl o_Pl))) rfl hl.1 rfl (Nat.le_of_ble_eq_true rfl) dX6_fewestStops_2 ⟨Nat.zero_le _, Nat.zero_le _⟩ (fun H locs hP hD hS => ?_)
    have hP : va_P D vwCl (wPl K hPl gPl2 hPb sPl ++ wPb K hPb o1 ++ wRo K hRo sRo) H := hP
    have hD : va_D A (wPl K hPl gPl2 hPb sPl ++ wPb K hPb o1 ++ wRo K hRo sRo) := hD
    refine lv_iconst (v := (0 : Int32)) hx hb dX6_fewestStops_5 (by decide) ?_
    refine lv_istore_n (lv' := [(2, .int (0 : Int32)), (0, .ref (hPl 99)), (1, .ref (hRo 99))]) hx hb dX6_fewestStops_6 rfl hl (by decide) rfl (fun ls hl => ?_)
    exact w7 F (0 : Int32) o1 H locs ls hf hP hD hS (lv_sub hl [1, 2, 0] rfl)
  rw [hHe] at hgo
  exact hgo

def wz_X6_leastBeginning : List Cond := .code yX6_leastBeginning cX6_leastBeginning 3 (some .int) :: wsL_law
abbrev r_X6_leastBeginning : Room := { frames := 3, cells := 0, slots := 0, locals := 79 }
set_option maxHeartbeats 4000000 in
set_option maxRecDepth 100000 in
theorem c_X6_leastBeginning (l : Launch) (D : va_G) (K : Nat → ClassId) (F : Nat) (hPl : Nat → Nat) (gPl3 : Nat → Nat) (hPc : Nat → Nat) (hRo : Nat → Nat) (sz : Nat) (sPl : MS) (sPc : MS) (sRo : MS) (res : Int32 × MS × MS) (hf : f_X6_leastBeginning F sRo sPl sPc = some res) : Met l yX6_leastBeginning wz_X6_leastBeginning r_X6_leastBeginning (va_Pc [.ref (hPl 99), .ref (hRo 99)] (PW D K (wPl K hPl hPc gPl3 sPl ++ wPc K hPc sPc ++ wRo K hRo sRo) sz)) (va_Qi (fun r u => r = res.1 ∧ u = res.2) (fun u t => BW D K (va_A (wPl K hPl hPc gPl3 sPl ++ wPc K hPc sPc ++ wRo K hRo sRo) sz) (wPl K hPl hPc gPl3 u.1 ++ wPc K hPc u.2 ++ wRo K hRo sRo) t) (va_A (wPl K hPl hPc gPl3 sPl ++ wPc K hPc sPc ++ wRo K hRo sRo) sz)) 0 0 (va_A (wPl K hPl hPc gPl3 sPl ++ wPc K hPc sPc ++ wRo K hRo sRo) sz) := by
  refine Met.ofW (cc := cX6_leastBeginning) (maxL := 3) (ret := (some .int)) (by decide) rfl ?_
  intro p e s m args below meth c s₁ B hml hv
  obtain ⟨hargs, hsz, hP, hK, hD0⟩ := hv
  have hx := B.exec
  have hb := B.bytes
  have hr := B.returns
  have hts := atoms_spec (ws := wz_X6_leastBeginning) B.pre
  have htl : ∀ w ∈ wsL_law, w.before args s = true := fun w h => hts w (List.mem_cons_of_mem _ h)
  have hown : s.vm.findClass RX6 = some m.cls := findClass_of_methodNamed B.named
  have hlocks := B.notSynchronized
  subst hsz
  have hD := hD0.self (sz := s.heap.size)
  generalize hAe : va_A (wPl K hPl hPc gPl3 sPl ++ wPc K hPc sPc ++ wRo K hRo sRo) s.heap.size = A at hD ⊢
  have hA : ∀ q : Nat, s.heap.size ≤ q → A q := fun q h => by rw [← hAe]; exact Or.inr h
  have hS : va_S A s.heap s.heap [] := va_S.rf
  have iX6 : ∀ w ∈ wsX60, w ∈ wz_X6_leastBeginning := fun w h => List.mem_cons_of_mem _ (inlX6 w h)
  have iX9 : ∀ w ∈ wsX90, w ∈ wz_X6_leastBeginning := fun w h => List.mem_cons_of_mem _ (inlX9 w h)
  suffices hgo : ∀ Q : State → Prop, Q = MQ below (va_Qi (fun r u => r = res.1 ∧ u = res.2) (fun u t => BW D K A (wPl K hPl hPc gPl3 u.1 ++ wPc K hPc u.2 ++ wRo K hRo sRo) t) A) args s 0 0 A → W p l e (headSpec wz_X6_leastBeginning r_X6_leastBeginning).room s m args below meth c s.heap [] 0 0 Q (entryFrame m args 3) from hgo _ rfl
  intro Q hQ
  have w8 : ∀ (n : Nat), ∀ (x2 : Int32), ∀ (sPl : MS), ∀ (sPc : MS), ∀ (H : Heap) (locs : List Loc) (ls : Array Slot), f_X6_leastBeginning_8 F sRo n x2 sPl sPc = some res → va_P D vwCl (wPl K hPl hPc gPl3 sPl ++ wPc K hPc sPc ++ wRo K hRo sRo) H → va_D A (wPl K hPl hPc gPl3 sPl ++ wPc K hPc sPc ++ wRo K hRo sRo) → va_S A s.heap H locs → lv_has ls 3 [(0, .ref (hPl 99)), (1, .ref (hRo 99)), (2, .int x2)] → W p l e (headSpec wz_X6_leastBeginning r_X6_leastBeginning).room s m args below meth c H locs 0 0 Q (F0 m 8 ls []) := by
    intro n
    induction n with
    | zero =>
      intro x2 sPl sPc H locs ls hf
      exact absurd (show none = some res from hf) (fun h => nomatch h)
    | succ n ih =>
      intro x2 sPl sPc H locs ls hf hP hD hS hl
      rw [f_X6_leastBeginning_8] at hf
      refine lv_iload_n hx hb dX6_leastBeginning_8 rfl (lv_at hl 2 rfl) ?_
      refine lv_aload_n hx hb dX6_leastBeginning_9 rfl (lv_at hl 1 rfl) ?_
      refine va_get (D := D) (ci := 8) (v := .int (sRo.1 0)) (C := RX9) (T := TX9) (N := 19) hx hb hts iX9 hown hK hP ((5 + 9) + 0) (rwr (lnA ln_Pl ln_Pc) o_Ro) rfl 0 (by decide) (htl _ (mB30 _ (List.mem_of_getElem? (i := 7) rfl))) (fun _ h9 => h9) rfl dX6_leastBeginning_10 ?_
      refine lv_icmp_gt (tgt := 37) hx hb dX6_leastBeginning_13 (by decide) (fun c2 => ?_) (fun c2 => ?_)
      · have hf := it_t hf c2
        refine lv_bipush (v := (-2 : Int32)) hx hb dX6_leastBeginning_37 (by decide) ?_
        have e9 := Option.some.inj hf
        rw [hQ]
        exact W.iret (v := (-2 : Int32)) hx hb hr (fun t ht hW => ⟨⟨(-2 : Int32), (sPl, sPc), rfl, ⟨pr1 e9, pr2 e9⟩, ⟨by rw [ht]; exact hP, va_K.moved hW.alike hK, hD⟩⟩, hS.F ht⟩) hS.2.2 dX6_leastBeginning_39
      · have hf := it_f hf c2
        refine lv_aload_n hx hb dX6_leastBeginning_16 rfl (lv_at hl 0 rfl) ?_
        refine va_get (D := D) (ci := 5) (v := .ref (hPl 1)) (C := RX6) (T := TX6) (N := 4) hx hb hts iX6 hown hK hP 0 (rwl (rwl o_Pl)) rfl 1 (by decide) (htl _ (mB4 _ (List.mem_of_getElem? (i := 1) rfl))) (fun _ h9 => h9) rfl dX6_leastBeginning_17 ?_
        refine lv_iload_n hx hb dX6_leastBeginning_20 rfl (lv_at hl 2 rfl) ?_
        obtain ⟨g3, hf⟩ := gd_s hf
        refine va_lald hx hb hK hP 2 1 (f := sPl.2.2.2 1) (rwl (rwl a_Pl_1)) rfl (vpb_in g3) dX6_leastBeginning_21 ?_
        refine lv_ldc2 (v := (1099511627776 : Int64)) hx hb hown (htl _ (mB32 _ (List.mem_of_getElem? (i := 9) rfl))) dX6_leastBeginning_22 ?_
        refine W.lcmp hx hb dX6_leastBeginning_25 ?_
        refine lv_if_ge (tgt := 31) hx hb dX6_leastBeginning_26 (by decide) (fun c4 => ?_) (fun c4 => ?_)
        · have hf := it_t hf c4
          obtain ⟨v5, ev5⟩ : ∃ z : Int32, z = x2 + (1 : Int32) := ⟨_, rfl⟩
          have hf := lz_s hf v5 ev5
          refine lv_iinc (v := v5) (lv' := [(2, .int v5), (0, .ref (hPl 99)), (1, .ref (hRo 99))]) hx hb dX6_leastBeginning_31 hl (k := 2) rfl (by rw [ev5]; rfl) (by decide) rfl (fun ls hl => ?_)
          refine lv_goto (tgt := 8) hx hb dX6_leastBeginning_34 (by decide) ?_
          exact ih v5 sPl sPc H locs ls hf hP hD hS (lv_sub hl [1, 2, 0] rfl)
        · have hf := it_f hf c4
          refine lv_iload_n hx hb dX6_leastBeginning_29 rfl (lv_at hl 2 rfl) ?_
          have e9 := Option.some.inj hf
          rw [hQ]
          exact W.iret (v := x2) hx hb hr (fun t ht hW => ⟨⟨x2, (sPl, sPc), rfl, ⟨pr1 e9, pr2 e9⟩, ⟨by rw [ht]; exact hP, va_K.moved hW.alike hK, hD⟩⟩, hS.F ht⟩) hS.2.2 dX6_leastBeginning_30
  have hen : entryFrame m args 3 = entryFrame m (([.ref (hPl 99), .ref (hRo 99)] : List Value).toArray) 3 := by rw [hargs]
  have hl := lv_entry ([.ref (hPl 99), .ref (hRo 99)]) (n := 3) (Nat.le_of_ble_eq_true rfl)
  rw [hen, lg_entry_eq]
  generalize (lg_sl ([.ref (hPl 99), .ref (hRo 99)]) ++ List.replicate (3 - (lg_sl ([.ref (hPl 99), .ref (hRo 99)])).length) Slot.unset).toArray = ls at hl ⊢
  have hl : lv_has ls 3 [(0, .ref (hPl 99)), (1, .ref (hRo 99))] := hl
  unfold f_X6_leastBeginning at hf
  obtain ⟨H, hHe⟩ : ∃ z, z = s.heap := ⟨_, rfl⟩
  obtain ⟨locs, hLe⟩ : ∃ z : List Loc, z = [] := ⟨_, rfl⟩
  rw [← hLe]
  have hS : va_S A s.heap H locs := by rw [hHe, hLe]; exact hS
  have hP : va_P D vwCl (wPl K hPl hPc gPl3 sPl ++ wPc K hPc sPc ++ wRo K hRo sRo) H := by rw [hHe]; exact hP
  have hgo : W p l e (headSpec wz_X6_leastBeginning r_X6_leastBeginning).room s m args below meth c H locs 0 0 Q (F0 m 0 ls []) := by
    refine lv_aload_n hx hb dX6_leastBeginning_0 rfl (lv_at hl 0 rfl) ?_
    refine lv_aload_n hx hb dX6_leastBeginning_1 rfl (lv_at hl 1 rfl) ?_
    refine lv_iconst (v := (-1 : Int32)) hx hb dX6_leastBeginning_2 (by decide) ?_
    obtain ⟨o1, go1, hf⟩ := bd_s hf
    refine rs_Vv (As := [.ref (hRo 99), .int (-1 : Int32)]) (rest := []) ⟨hx, hb, hml, hown, hts⟩ (c_X6_look l D K F hPl gPl3 hPc hRo H.size sPl sPc sRo (-1 : Int32) o1 go1) (cwV 2 hts (gcV_X6_look (mB32 _ (List.mem_of_getElem? (i := 5) rfl))) rfl rfl rfl hdV_X6_look ⟨Nat.le_of_ble_eq_true rfl, Nat.le_of_ble_eq_true rfl⟩) hK hP hD hS hA (va_recv hK hP (ci := 5) (q0 := 0) rfl (rwl (rwl o_Pl))) rfl hl.1 rfl (Nat.le_of_ble_eq_true rfl) dX6_leastBeginning_3 ⟨Nat.zero_le _, Nat.zero_le _⟩ (fun H locs hP hD hS => ?_)
    have hP : va_P D vwCl (wPl K hPl hPc gPl3 o1.1 ++ wPc K hPc o1.2 ++ wRo K hRo sRo) H := hP
    have hD : va_D A (wPl K hPl hPc gPl3 o1.1 ++ wPc K hPc o1.2 ++ wRo K hRo sRo) := hD
    refine lv_iconst (v := (0 : Int32)) hx hb dX6_leastBeginning_6 (by decide) ?_
    refine lv_istore_n (lv' := [(2, .int (0 : Int32)), (0, .ref (hPl 99)), (1, .ref (hRo 99))]) hx hb dX6_leastBeginning_7 rfl hl (by decide) rfl (fun ls hl => ?_)
    exact w8 F (0 : Int32) o1.1 o1.2 H locs ls hf hP hD hS (lv_sub hl [1, 2, 0] rfl)
  rw [hHe] at hgo
  exact hgo
