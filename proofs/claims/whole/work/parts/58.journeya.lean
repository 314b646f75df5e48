def wz_X3_seePump : List Cond := .code yX3_seePump cX3_seePump 2 none :: wsL_law
abbrev r_X3_seePump : Room := { frames := 2, cells := 0, slots := 0, locals := 44 }
set_option maxHeartbeats 4000000 in
set_option maxRecDepth 100000 in
theorem c_X3_seePump (l : Launch) (D : va_G) (K : Nat → ClassId) (F : Nat) (hDw : Nat → Nat) (hJo : Nat → Nat) (gJo4 : Nat → Nat) (gJo5 : Nat → Nat) (hRo : Nat → Nat) (sz : Nat) (sDw : MS) (sJo : MS) (sRo : MS) (res : MS × MS) (hf : f_X3_seePump F sRo sDw sJo = some res) : Met l yX3_seePump wz_X3_seePump r_X3_seePump (va_Pc [.ref (hJo 99), .ref (hRo 99)] (PW D K (wDw K hDw sDw ++ wJo K hJo (hDw 99) gJo4 gJo5 sJo ++ wRo K hRo sRo) sz)) (va_Qv (fun u => u = res) (fun u t => BW D K (va_A (wDw K hDw sDw ++ wJo K hJo (hDw 99) gJo4 gJo5 sJo ++ wRo K hRo sRo) sz) (wDw K hDw u.1 ++ wJo K hJo (hDw 99) gJo4 gJo5 u.2 ++ wRo K hRo sRo) t) (va_A (wDw K hDw sDw ++ wJo K hJo (hDw 99) gJo4 gJo5 sJo ++ wRo K hRo sRo) sz)) 0 0 (va_A (wDw K hDw sDw ++ wJo K hJo (hDw 99) gJo4 gJo5 sJo ++ wRo K hRo sRo) sz) := by
  refine Met.ofW (cc := cX3_seePump) (maxL := 2) (ret := none) (by decide) rfl ?_
  intro p e s m args below meth c s₁ B hml hv
  obtain ⟨hargs, hsz, hP, hK, hD0⟩ := hv
  have hx := B.exec
  have hb := B.bytes
  have hr := B.returns
  have hts := atoms_spec (ws := wz_X3_seePump) B.pre
  have htl : ∀ w ∈ wsL_law, w.before args s = true := fun w h => hts w (List.mem_cons_of_mem _ h)
  have hown : s.vm.findClass RX3 = some m.cls := findClass_of_methodNamed B.named
  have hlocks := B.notSynchronized
  subst hsz
  have hD := hD0.self (sz := s.heap.size)
  generalize hAe : va_A (wDw K hDw sDw ++ wJo K hJo (hDw 99) gJo4 gJo5 sJo ++ wRo K hRo sRo) s.heap.size = A at hD ⊢
  have hA : ∀ q : Nat, s.heap.size ≤ q → A q := fun q h => by rw [← hAe]; exact Or.inr h
  have hS : va_S A s.heap s.heap [] := va_S.rf
  have iX0 : ∀ w ∈ wsX00, w ∈ wz_X3_seePump := fun w h => List.mem_cons_of_mem _ (inlX0 w h)
  have iX3 : ∀ w ∈ wsX30, w ∈ wz_X3_seePump := fun w h => List.mem_cons_of_mem _ (inlX3 w h)
  suffices hgo : ∀ Q : State → Prop, Q = MQ below (va_Qv (fun u => u = res) (fun u t => BW D K A (wDw K hDw u.1 ++ wJo K hJo (hDw 99) gJo4 gJo5 u.2 ++ wRo K hRo sRo) t) A) args s 0 0 A → W p l e (headSpec wz_X3_seePump r_X3_seePump).room s m args below meth c s.heap [] 0 0 Q (entryFrame m args 2) from hgo _ rfl
  intro Q hQ
  have hen : entryFrame m args 2 = entryFrame m (([.ref (hJo 99), .ref (hRo 99)] : List Value).toArray) 2 := by rw [hargs]
  have hl := lv_entry ([.ref (hJo 99), .ref (hRo 99)]) (n := 2) (Nat.le_of_ble_eq_true rfl)
  rw [hen, lg_entry_eq]
  generalize (lg_sl ([.ref (hJo 99), .ref (hRo 99)]) ++ List.replicate (2 - (lg_sl ([.ref (hJo 99), .ref (hRo 99)])).length) Slot.unset).toArray = ls at hl ⊢
  have hl : lv_has ls 2 [(0, .ref (hJo 99)), (1, .ref (hRo 99))] := hl
  unfold f_X3_seePump at hf
  obtain ⟨H, hHe⟩ : ∃ z, z = s.heap := ⟨_, rfl⟩
  obtain ⟨locs, hLe⟩ : ∃ z : List Loc, z = [] := ⟨_, rfl⟩
  rw [← hLe]
  have hS : va_S A s.heap H locs := by rw [hHe, hLe]; exact hS
  have hP : va_P D vwCl (wDw K hDw sDw ++ wJo K hJo (hDw 99) gJo4 gJo5 sJo ++ wRo K hRo sRo) H := by rw [hHe]; exact hP
  have hgo : W p l e (headSpec wz_X3_seePump r_X3_seePump).room s m args below meth c H locs 0 0 Q (F0 m 0 ls []) := by
    refine lv_aload_n hx hb dX3_seePump_0 rfl (lv_at hl 0 rfl) ?_
    refine va_get (D := D) (ci := 3) (v := .ref (hDw 99)) (C := RX3) (T := TX3) (N := 7) hx hb hts iX3 hown hK hP (1 + 0) (rwl (rwr ln_Dw o_Jo)) rfl 6 (by decide) (htl _ (mB5 _ (List.mem_of_getElem? (i := 15) rfl))) (fun _ h9 => h9) rfl dX3_seePump_1 ?_
    refine lv_aload_n hx hb dX3_seePump_4 rfl (lv_at hl 0 rfl) ?_
    refine va_get (D := D) (ci := 3) (v := .ref (hJo 0)) (C := RX3) (T := TX3) (N := 7) hx hb hts iX3 hown hK hP (1 + 0) (rwl (rwr ln_Dw o_Jo)) rfl 0 (by decide) (htl _ (mB5 _ (List.mem_of_getElem? (i := 10) rfl))) (fun _ h9 => h9) rfl dX3_seePump_5 ?_
    refine lv_bipush (v := (6 : Int32)) hx hb dX3_seePump_8 (by decide) ?_
    obtain ⟨g1, hf⟩ := gd_s hf
    refine va_iald hx hb hK hP (1 + 1) 0 (f := sJo.2.2.1 0) (rwl (rwr ln_Dw a_Jo_0)) rfl (vpb_in g1) dX3_seePump_10 ?_
    refine lv_topi (fun v2 ev2 => ?_)
    have hf := lz_s hf v2 ev2
    refine va_put (D := D) (ci := 0) (v := .int v2) (ty := .int) (C := RX0) (T := TX0) (N := 1) hx hb hts iX0 tyX0 tyX0_ok nmX0 hown hK hP hD hS 0 (rwl (rwl o_Dw)) rfl 0 (by decide) (htl _ (mB17 _ (List.mem_of_getElem? (i := 0) rfl))) (fun _ h9 => h9) rfl (by decide +kernel) rfl rfl (Nat.le_of_ble_eq_true rfl) dX3_seePump_11 (fun H locs hP hD hS => ?_)
    have hP := cvP (stl (stl si_Dw_0 (rlt o_Dw)) (rlt (rwl o_Dw))) hP
    have hD := cvD (stl (stl si_Dw_0 (rlt o_Dw)) (rlt (rwl o_Dw))) hD
    obtain ⟨s3, es3⟩ : ∃ z, z = sI sDw 0 v2 := ⟨_, rfl⟩
    have hP : va_P D vwCl (wDw K hDw s3 ++ wJo K hJo (hDw 99) gJo4 gJo5 sJo ++ wRo K hRo sRo) H := by rw [es3]; exact hP
    have hD : va_D A (wDw K hDw s3 ++ wJo K hJo (hDw 99) gJo4 gJo5 sJo ++ wRo K hRo sRo) := by rw [es3]; exact hD
    have hf := lz_s hf s3 es3
    refine lv_aload_n hx hb dX3_seePump_14 rfl (lv_at hl 0 rfl) ?_
    refine va_get (D := D) (ci := 3) (v := .ref (hJo 0)) (C := RX3) (T := TX3) (N := 7) hx hb hts iX3 hown hK hP (1 + 0) (rwl (rwr ln_Dw o_Jo)) rfl 0 (by decide) (htl _ (mB5 _ (List.mem_of_getElem? (i := 10) rfl))) (fun _ h9 => h9) rfl dX3_seePump_15 ?_
    refine lv_iconst (v := (4 : Int32)) hx hb dX3_seePump_18 (by decide) ?_
    refine lv_aload_n hx hb dX3_seePump_19 rfl (lv_at hl 0 rfl) ?_
    refine va_get (D := D) (ci := 3) (v := .ref (hDw 99)) (C := RX3) (T := TX3) (N := 7) hx hb hts iX3 hown hK hP (1 + 0) (rwl (rwr ln_Dw o_Jo)) rfl 6 (by decide) (htl _ (mB5 _ (List.mem_of_getElem? (i := 15) rfl))) (fun _ h9 => h9) rfl dX3_seePump_20 ?_
    refine lv_aload_n hx hb dX3_seePump_23 rfl (lv_at hl 1 rfl) ?_
    refine lv_aload_n hx hb dX3_seePump_24 rfl (lv_at hl 0 rfl) ?_
    refine va_get (D := D) (ci := 3) (v := .ref (hJo 0)) (C := RX3) (T := TX3) (N := 7) hx hb hts iX3 hown hK hP (1 + 0) (rwl (rwr ln_Dw o_Jo)) rfl 0 (by decide) (htl _ (mB5 _ (List.mem_of_getElem? (i := 10) rfl))) (fun _ h9 => h9) rfl dX3_seePump_25 ?_
    refine lv_iconst (v := (0 : Int32)) hx hb dX3_seePump_28 (by decide) ?_
    obtain ⟨g4, hf⟩ := gd_s hf
    refine va_iald hx hb hK hP (1 + 1) 0 (f := sJo.2.2.1 0) (rwl (rwr ln_Dw a_Jo_0)) rfl (vpb_in g4) dX3_seePump_29 ?_
    refine lv_topi (fun v5 ev5 => ?_)
    have hf := lz_s hf v5 ev5
    obtain ⟨o6, go6, hf⟩ := bd_s hf
    refine rk_Vi (wn := wDw K hDw o6.2 ++ wJo K hJo (hDw 99) gJo4 gJo5 sJo ++ wRo K hRo sRo) [wDw K hDw s3, wJo K hJo (hDw 99) gJo4 gJo5 sJo, wRo K hRo sRo] [wDw K hDw s3, wRo K hRo sRo] [wDw K hDw o6.2, wRo K hRo sRo] [wDw K hDw o6.2, wJo K hJo (hDw 99) gJo4 gJo5 sJo, wRo K hRo sRo] (As := [.ref (hRo 99), .int v5]) (rest := [.int (4 : Int32), .ref (hJo 0)]) ⟨hx, hb, hml, hown, hts⟩ (c_X0_priceSeen l D K F hDw hRo H.size s3 sRo v5 o6 go6) (cwV 2 hts (gcV_X0_priceSeen (mB17 _ (List.mem_of_getElem? (i := 1) rfl))) rfl rfl rfl hdV_X0_priceSeen ⟨Nat.le_of_ble_eq_true rfl, Nat.le_of_ble_eq_true rfl⟩) hK hP hD hS hA [0, 2] (fl3 _ _ _) rfl (by decide) (fl2 _ _) (fl2 _ _) rfl rfl (fl3 _ _ _) (va_recv hK hP (ci := 0) (q0 := 0) rfl (rwl (rwl o_Dw))) rfl hl.1 rfl (Nat.le_of_ble_eq_true rfl) dX3_seePump_30 ⟨Nat.zero_le _, Nat.zero_le _⟩ (fun H locs hP hD hS => ?_)
    have hP : va_P D vwCl (wDw K hDw o6.2 ++ wJo K hJo (hDw 99) gJo4 gJo5 sJo ++ wRo K hRo sRo) H := hP
    have hD : va_D A (wDw K hDw o6.2 ++ wJo K hJo (hDw 99) gJo4 gJo5 sJo ++ wRo K hRo sRo) := hD
    obtain ⟨g7, hf⟩ := gd_s hf
    refine va_iast hx hb hK hP hD hS (1 + 1) 0 (f := sJo.2.2.1 0) (rwl (rwr ln_Dw a_Jo_0)) rfl (vpb_in g7) dX3_seePump_33 (fun H locs hP hD hS => ?_)
    have hP := cvP (stl (str ln_Dw sa_Jo_0) (rlt (rwr ln_Dw a_Jo_0))) hP
    have hD := cvD (stl (str ln_Dw sa_Jo_0) (rlt (rwr ln_Dw a_Jo_0))) hD
    obtain ⟨s8, es8⟩ : ∃ z, z = sA sJo 0 ((4 : Int32).toNatClampNeg) o6.1 := ⟨_, rfl⟩
    have hP : va_P D vwCl (wDw K hDw o6.2 ++ wJo K hJo (hDw 99) gJo4 gJo5 s8 ++ wRo K hRo sRo) H := by rw [es8]; exact hP
    have hD : va_D A (wDw K hDw o6.2 ++ wJo K hJo (hDw 99) gJo4 gJo5 s8 ++ wRo K hRo sRo) := by rw [es8]; exact hD
    have hf := lz_s hf s8 es8
    refine lv_aload_n hx hb dX3_seePump_34 rfl (lv_at hl 0 rfl) ?_
    refine va_get (D := D) (ci := 3) (v := .ref (hJo 0)) (C := RX3) (T := TX3) (N := 7) hx hb hts iX3 hown hK hP (1 + 0) (rwl (rwr ln_Dw o_Jo)) rfl 0 (by decide) (htl _ (mB5 _ (List.mem_of_getElem? (i := 10) rfl))) (fun _ h9 => h9) rfl dX3_seePump_35 ?_
    refine lv_bipush (v := (6 : Int32)) hx hb dX3_seePump_38 (by decide) ?_
    refine lv_aload_n hx hb dX3_seePump_40 rfl (lv_at hl 0 rfl) ?_
    refine va_get (D := D) (ci := 3) (v := .ref (hDw 99)) (C := RX3) (T := TX3) (N := 7) hx hb hts iX3 hown hK hP (1 + 0) (rwl (rwr ln_Dw o_Jo)) rfl 6 (by decide) (htl _ (mB5 _ (List.mem_of_getElem? (i := 15) rfl))) (fun _ h9 => h9) rfl dX3_seePump_41 ?_
    refine va_get (D := D) (ci := 0) (v := .int (o6.2.1 0)) (C := RX0) (T := TX0) (N := 1) hx hb hts iX0 hown hK hP 0 (rwl (rwl o_Dw)) rfl 0 (by decide) (htl _ (mB17 _ (List.mem_of_getElem? (i := 0) rfl))) (fun _ h9 => h9) rfl dX3_seePump_44 ?_
    obtain ⟨g9, hf⟩ := gd_s hf
    refine va_iast hx hb hK hP hD hS (1 + 1) 0 (f := s8.2.2.1 0) (rwl (rwr ln_Dw a_Jo_0)) rfl (vpb_in g9) dX3_seePump_47 (fun H locs hP hD hS => ?_)
    have hP := cvP (stl (str ln_Dw sa_Jo_0) (rlt (rwr ln_Dw a_Jo_0))) hP
    have hD := cvD (stl (str ln_Dw sa_Jo_0) (rlt (rwr ln_Dw a_Jo_0))) hD
    obtain ⟨s10, es10⟩ : ∃ z, z = sA s8 0 ((6 : Int32).toNatClampNeg) (o6.2.1 0) := ⟨_, rfl⟩
    have hP : va_P D vwCl (wDw K hDw o6.2 ++ wJo K hJo (hDw 99) gJo4 gJo5 s10 ++ wRo K hRo sRo) H := by rw [es10]; exact hP
    have hD : va_D A (wDw K hDw o6.2 ++ wJo K hJo (hDw 99) gJo4 gJo5 s10 ++ wRo K hRo sRo) := by rw [es10]; exact hD
    have hf := lz_s hf s10 es10
    refine lv_aload_n hx hb dX3_seePump_48 rfl (lv_at hl 0 rfl) ?_
    refine va_get (D := D) (ci := 3) (v := .ref (hJo 0)) (C := RX3) (T := TX3) (N := 7) hx hb hts iX3 hown hK hP (1 + 0) (rwl (rwr ln_Dw o_Jo)) rfl 0 (by decide) (htl _ (mB5 _ (List.mem_of_getElem? (i := 10) rfl))) (fun _ h9 => h9) rfl dX3_seePump_49 ?_
    refine lv_iconst (v := (5 : Int32)) hx hb dX3_seePump_52 (by decide) ?_
    refine lv_iconst (v := (0 : Int32)) hx hb dX3_seePump_53 (by decide) ?_
    obtain ⟨g11, hf⟩ := gd_s hf
    refine va_iast hx hb hK hP hD hS (1 + 1) 0 (f := s10.2.2.1 0) (rwl (rwr ln_Dw a_Jo_0)) rfl (vpb_in g11) dX3_seePump_54 (fun H locs hP hD hS => ?_)
    have hP := cvP (stl (str ln_Dw sa_Jo_0) (rlt (rwr ln_Dw a_Jo_0))) hP
    have hD := cvD (stl (str ln_Dw sa_Jo_0) (rlt (rwr ln_Dw a_Jo_0))) hD
    obtain ⟨s12, es12⟩ : ∃ z, z = sA s10 0 ((5 : Int32).toNatClampNeg) (0 : Int32) := ⟨_, rfl⟩
    have hP : va_P D vwCl (wDw K hDw o6.2 ++ wJo K hJo (hDw 99) gJo4 gJo5 s12 ++ wRo K hRo sRo) H := by rw [es12]; exact hP
    have hD : va_D A (wDw K hDw o6.2 ++ wJo K hJo (hDw 99) gJo4 gJo5 s12 ++ wRo K hRo sRo) := by rw [es12]; exact hD
    have hf := lz_s hf s12 es12
    have e9 := Option.some.inj hf
    rw [hQ]
    exact W.vret hx hb hr (fun t ht hW => ⟨⟨(o6.2, s12), rfl, e9, ⟨by rw [ht]; exact hP, va_K.moved hW.alike hK, hD⟩⟩, hS.F ht⟩) hS.2.2 dX3_seePump_55
  rw [hHe] at hgo
  exact hgo

theorem gcV_X3_seePump {T0 : Cond} {own : String} {i : Nat} (h : Cond.methodLink own i yX3_seePump ∈ wsL_law) : GoodIn (T0 :: wsL_law) (wsV own i RX3 yX3_seePump wz_X3_seePump) := gV h (mB16 _ (List.mem_of_getElem? (i := 21) rfl)) (mB16 _ (List.mem_of_getElem? (i := 22) rfl)) (mB2 _ (List.mem_of_getElem? (i := 18) rfl)) (mB16 _ (List.mem_of_getElem? (i := 23) rfl))
theorem hdV_X3_seePump : yX3_seePump.cls = RX3 ∧ yX3_seePump.cls ≠ "java/lang/invoke/MethodHandle" ∧ yX3_seePump.cls ≠ "java/lang/invoke/VarHandle" ∧ (parseMethodDescriptor yX3_seePump.desc).map (fun d => d.parameters.length) = some 1 := by decide +kernel
def wz_X3_begin : List Cond := .code yX3_begin cX3_begin 2 none :: wsL_law
abbrev r_X3_begin : Room := { frames := 3, cells := 0, slots := 0, locals := 65 }
set_option maxHeartbeats 4000000 in
set_option maxRecDepth 100000 in
theorem c_X3_begin (l : Launch) (D : va_G) (K : Nat → ClassId) (F : Nat) (hDw : Nat → Nat) (hJo : Nat → Nat) (gJo4 : Nat → Nat) (gJo5 : Nat → Nat) (hRo : Nat → Nat) (sz : Nat) (sDw : MS) (sJo : MS) (sRo : MS) (res : MS × MS) (hf : f_X3_begin F sRo sDw sJo = some res) : Met l yX3_begin wz_X3_begin r_X3_begin (va_Pc [.ref (hJo 99), .ref (hRo 99)] (PW D K (wDw K hDw sDw ++ wJo K hJo (hDw 99) gJo4 gJo5 sJo ++ wRo K hRo sRo) sz)) (va_Qv (fun u => u = res) (fun u t => BW D K (va_A (wDw K hDw sDw ++ wJo K hJo (hDw 99) gJo4 gJo5 sJo ++ wRo K hRo sRo) sz) (wDw K hDw u.1 ++ wJo K hJo (hDw 99) gJo4 gJo5 u.2 ++ wRo K hRo sRo) t) (va_A (wDw K hDw sDw ++ wJo K hJo (hDw 99) gJo4 gJo5 sJo ++ wRo K hRo sRo) sz)) 0 0 (va_A (wDw K hDw sDw ++ wJo K hJo (hDw 99) gJo4 gJo5 sJo ++ wRo K hRo sRo) sz) := by
  refine Met.ofW (cc := cX3_begin) (maxL := 2) (ret := none) (by decide) rfl ?_
  intro p e s m args below meth c s₁ B hml hv
  obtain ⟨hargs, hsz, hP, hK, hD0⟩ := hv
  have hx := B.exec
  have hb := B.bytes
  have hr := B.returns
  have hts := atoms_spec (ws := wz_X3_begin) B.pre
  have htl : ∀ w ∈ wsL_law, w.before args s = true := fun w h => hts w (List.mem_cons_of_mem _ h)
  have hown : s.vm.findClass RX3 = some m.cls := findClass_of_methodNamed B.named
  have hlocks := B.notSynchronized
  subst hsz
  have hD := hD0.self (sz := s.heap.size)
  generalize hAe : va_A (wDw K hDw sDw ++ wJo K hJo (hDw 99) gJo4 gJo5 sJo ++ wRo K hRo sRo) s.heap.size = A at hD ⊢
  have hA : ∀ q : Nat, s.heap.size ≤ q → A q := fun q h => by rw [← hAe]; exact Or.inr h
  have hS : va_S A s.heap s.heap [] := va_S.rf
  have iX3 : ∀ w ∈ wsX30, w ∈ wz_X3_begin := fun w h => List.mem_cons_of_mem _ (inlX3 w h)
  have iX9 : ∀ w ∈ wsX90, w ∈ wz_X3_begin := fun w h => List.mem_cons_of_mem _ (inlX9 w h)
  suffices hgo : ∀ Q : State → Prop, Q = MQ below (va_Qv (fun u => u = res) (fun u t => BW D K A (wDw K hDw u.1 ++ wJo K hJo (hDw 99) gJo4 gJo5 u.2 ++ wRo K hRo sRo) t) A) args s 0 0 A → W p l e (headSpec wz_X3_begin r_X3_begin).room s m args below meth c s.heap [] 0 0 Q (entryFrame m args 2) from hgo _ rfl
  intro Q hQ
  have hen : entryFrame m args 2 = entryFrame m (([.ref (hJo 99), .ref (hRo 99)] : List Value).toArray) 2 := by rw [hargs]
  have hl := lv_entry ([.ref (hJo 99), .ref (hRo 99)]) (n := 2) (Nat.le_of_ble_eq_true rfl)
  rw [hen, lg_entry_eq]
  generalize (lg_sl ([.ref (hJo 99), .ref (hRo 99)]) ++ List.replicate (2 - (lg_sl ([.ref (hJo 99), .ref (hRo 99)])).length) Slot.unset).toArray = ls at hl ⊢
  have hl : lv_has ls 2 [(0, .ref (hJo 99)), (1, .ref (hRo 99))] := hl
  unfold f_X3_begin at hf
  obtain ⟨H, hHe⟩ : ∃ z, z = s.heap := ⟨_, rfl⟩
  obtain ⟨locs, hLe⟩ : ∃ z : List Loc, z = [] := ⟨_, rfl⟩
  rw [← hLe]
  have hS : va_S A s.heap H locs := by rw [hHe, hLe]; exact hS
  have hP : va_P D vwCl (wDw K hDw sDw ++ wJo K hJo (hDw 99) gJo4 gJo5 sJo ++ wRo K hRo sRo) H := by rw [hHe]; exact hP
  have hgo : W p l e (headSpec wz_X3_begin r_X3_begin).room s m args below meth c H locs 0 0 Q (F0 m 0 ls []) := by
    refine lv_aload_n hx hb dX3_begin_0 rfl (lv_at hl 0 rfl) ?_
    refine lv_iconst (v := (0 : Int32)) hx hb dX3_begin_1 (by decide) ?_
    refine va_put (D := D) (ci := 3) (v := .int (0 : Int32)) (ty := .int) (C := RX3) (T := TX3) (N := 7) hx hb hts iX3 tyX3 tyX3_ok nmX3 hown hK hP hD hS (1 + 0) (rwl (rwr ln_Dw o_Jo)) rfl 1 (by decide) (htl _ (mB16 _ (List.mem_of_getElem? (i := 12) rfl))) (fun _ h9 => h9) rfl (by decide +kernel) rfl rfl (Nat.le_of_ble_eq_true rfl) dX3_begin_2 (fun H locs hP hD hS => ?_)
    have hP := cvP (stl (str ln_Dw si_Jo_1) (rlt (rwr ln_Dw o_Jo))) hP
    have hD := cvD (stl (str ln_Dw si_Jo_1) (rlt (rwr ln_Dw o_Jo))) hD
    obtain ⟨s1, es1⟩ : ∃ z, z = sI sJo 1 (0 : Int32) := ⟨_, rfl⟩
    have hP : va_P D vwCl (wDw K hDw sDw ++ wJo K hJo (hDw 99) gJo4 gJo5 s1 ++ wRo K hRo sRo) H := by rw [es1]; exact hP
    have hD : va_D A (wDw K hDw sDw ++ wJo K hJo (hDw 99) gJo4 gJo5 s1 ++ wRo K hRo sRo) := by rw [es1]; exact hD
    have hf := lz_s hf s1 es1
    refine lv_aload_n hx hb dX3_begin_5 rfl (lv_at hl 0 rfl) ?_
    refine lv_iconst (v := (0 : Int32)) hx hb dX3_begin_6 (by decide) ?_
    refine va_put (D := D) (ci := 3) (v := .int (0 : Int32)) (ty := .int) (C := RX3) (T := TX3) (N := 7) hx hb hts iX3 tyX3 tyX3_ok nmX3 hown hK hP hD hS (1 + 0) (rwl (rwr ln_Dw o_Jo)) rfl 2 (by decide) (htl _ (mB16 _ (List.mem_of_getElem? (i := 13) rfl))) (fun _ h9 => h9) rfl (by decide +kernel) rfl rfl (Nat.le_of_ble_eq_true rfl) dX3_begin_7 (fun H locs hP hD hS => ?_)
    have hP := cvP (stl (str ln_Dw si_Jo_2) (rlt (rwr ln_Dw o_Jo))) hP
    have hD := cvD (stl (str ln_Dw si_Jo_2) (rlt (rwr ln_Dw o_Jo))) hD
    obtain ⟨s2, es2⟩ : ∃ z, z = sI s1 2 (0 : Int32) := ⟨_, rfl⟩
    have hP : va_P D vwCl (wDw K hDw sDw ++ wJo K hJo (hDw 99) gJo4 gJo5 s2 ++ wRo K hRo sRo) H := by rw [es2]; exact hP
    have hD : va_D A (wDw K hDw sDw ++ wJo K hJo (hDw 99) gJo4 gJo5 s2 ++ wRo K hRo sRo) := by rw [es2]; exact hD
    have hf := lz_s hf s2 es2
    refine lv_aload_n hx hb dX3_begin_10 rfl (lv_at hl 0 rfl) ?_
    refine va_get (D := D) (ci := 3) (v := .ref (hJo 0)) (C := RX3) (T := TX3) (N := 7) hx hb hts iX3 hown hK hP (1 + 0) (rwl (rwr ln_Dw o_Jo)) rfl 0 (by decide) (htl _ (mB5 _ (List.mem_of_getElem? (i := 10) rfl))) (fun _ h9 => h9) rfl dX3_begin_11 ?_
    refine lv_iconst (v := (0 : Int32)) hx hb dX3_begin_14 (by decide) ?_
    obtain ⟨o3, go3, hf⟩ := bd_s hf
    refine rw_Sv (wn := wDw K hDw sDw ++ wJo K hJo (hDw 99) gJo4 gJo5 (wA s2 0 o3) ++ wRo K hRo sRo) (As := [.ref (hJo 0), .int (0 : Int32)]) (rest := []) ⟨hx, hb, hml, hown, hts⟩ (c_J7_fill_53178 l D K F (hJo 0) 7 H.size (s2.2.2.1 0) (0 : Int32) o3 go3) (va_cwS 2 hts (gcS_J7_fill_53178 (mB16 _ (List.mem_of_getElem? (i := 15) rfl))) rfl rfl rfl hdS_J7_fill_53178 ⟨Nat.le_of_ble_eq_true rfl, Nat.le_of_ble_eq_true rfl⟩) hK hP hD hS hA [2] [0, 1, 3, 4, 5, 6, 7, 8, 9, 10, 11, 12, 13, 14] [0, 1, 14, 2, 3, 4, 5, 6, 7, 8, 9, 10, 11, 12, 13] rfl rfl (by decide +kernel) (by decide +kernel) (by decide +kernel) rfl (by decide +kernel) rfl hl.1 rfl (Nat.le_of_ble_eq_true rfl) dX3_begin_15 ⟨Nat.zero_le _, Nat.zero_le _⟩ (fun H locs hP hD hS => ?_)
    have hP : va_P D vwCl (wDw K hDw sDw ++ wJo K hJo (hDw 99) gJo4 gJo5 (wA s2 0 o3) ++ wRo K hRo sRo) H := hP
    have hD : va_D A (wDw K hDw sDw ++ wJo K hJo (hDw 99) gJo4 gJo5 (wA s2 0 o3) ++ wRo K hRo sRo) := hD
    obtain ⟨s4, es4⟩ : ∃ z, z = (wA s2 0 o3) := ⟨_, rfl⟩
    have hP : va_P D vwCl (wDw K hDw sDw ++ wJo K hJo (hDw 99) gJo4 gJo5 s4 ++ wRo K hRo sRo) H := by rw [es4]; exact hP
    have hD : va_D A (wDw K hDw sDw ++ wJo K hJo (hDw 99) gJo4 gJo5 s4 ++ wRo K hRo sRo) := by rw [es4]; exact hD
    have hf := lz_s hf s4 es4
    refine lv_aload_n hx hb dX3_begin_18 rfl (lv_at hl 0 rfl) ?_
    refine va_get (D := D) (ci := 3) (v := .ref (hJo 0)) (C := RX3) (T := TX3) (N := 7) hx hb hts iX3 hown hK hP (1 + 0) (rwl (rwr ln_Dw o_Jo)) rfl 0 (by decide) (htl _ (mB5 _ (List.mem_of_getElem? (i := 10) rfl))) (fun _ h9 => h9) rfl dX3_begin_19 ?_
    refine lv_iconst (v := (0 : Int32)) hx hb dX3_begin_22 (by decide) ?_
    refine lv_aload_n hx hb dX3_begin_23 rfl (lv_at hl 1 rfl) ?_
    obtain ⟨o5, go5, hf⟩ := bd_s hf
    refine ro_Vi (As := []) (rest := [.int (0 : Int32), .ref (hJo 0)]) ⟨hx, hb, hml, hown, hts⟩ (c_X9_start l D K F hRo sRo o5 go5) (cwV 0 hts (gcV_X9_start (mB16 _ (List.mem_of_getElem? (i := 16) rfl))) rfl rfl rfl hdV_X9_start ⟨Nat.le_of_ble_eq_true rfl, Nat.le_of_ble_eq_true rfl⟩) hK hP hS (va_PL (cs := [wDw K hDw sDw, wJo K hJo (hDw 99) gJo4 gJo5 s4, wRo K hRo sRo]) (cc := [wRo K hRo sRo]) hP (fl3 _ _ _) [2] rfl (fl1 _)) (va_recv hK hP (ci := 8) (q0 := ((1 + 4) + 0)) rfl (rwr (lnA ln_Dw ln_Jo) o_Ro)) rfl hl.1 rfl (Nat.le_of_ble_eq_true rfl) dX3_begin_24 ⟨Nat.zero_le _, Nat.zero_le _⟩ (fun H locs hP hS => ?_)
    obtain ⟨g6, hf⟩ := gd_s hf
    refine va_iast hx hb hK hP hD hS (1 + 1) 0 (f := s4.2.2.1 0) (rwl (rwr ln_Dw a_Jo_0)) rfl (vpb_in g6) dX3_begin_27 (fun H locs hP hD hS => ?_)
    have hP := cvP (stl (str ln_Dw sa_Jo_0) (rlt (rwr ln_Dw a_Jo_0))) hP
    have hD := cvD (stl (str ln_Dw sa_Jo_0) (rlt (rwr ln_Dw a_Jo_0))) hD
    obtain ⟨s7, es7⟩ : ∃ z, z = sA s4 0 ((0 : Int32).toNatClampNeg) o5 := ⟨_, rfl⟩
    have hP : va_P D vwCl (wDw K hDw sDw ++ wJo K hJo (hDw 99) gJo4 gJo5 s7 ++ wRo K hRo sRo) H := by rw [es7]; exact hP
    have hD : va_D A (wDw K hDw sDw ++ wJo K hJo (hDw 99) gJo4 gJo5 s7 ++ wRo K hRo sRo) := by rw [es7]; exact hD
    have hf := lz_s hf s7 es7
    refine lv_aload_n hx hb dX3_begin_28 rfl (lv_at hl 0 rfl) ?_
    refine va_get (D := D) (ci := 3) (v := .ref (hJo 0)) (C := RX3) (T := TX3) (N := 7) hx hb hts iX3 hown hK hP (1 + 0) (rwl (rwr ln_Dw o_Jo)) rfl 0 (by decide) (htl _ (mB5 _ (List.mem_of_getElem? (i := 10) rfl))) (fun _ h9 => h9) rfl dX3_begin_29 ?_
    refine lv_iconst (v := (1 : Int32)) hx hb dX3_begin_32 (by decide) ?_
    refine lv_aload_n hx hb dX3_begin_33 rfl (lv_at hl 1 rfl) ?_
    refine va_get (D := D) (ci := 8) (v := .int (sRo.1 1)) (C := RX9) (T := TX9) (N := 19) hx hb hts iX9 hown hK hP ((1 + 4) + 0) (rwr (lnA ln_Dw ln_Jo) o_Ro) rfl 1 (by decide) (htl _ (mB16 _ (List.mem_of_getElem? (i := 14) rfl))) (fun _ h9 => h9) rfl dX3_begin_34 ?_
    obtain ⟨g8, hf⟩ := gd_s hf
    refine va_iast hx hb hK hP hD hS (1 + 1) 0 (f := s7.2.2.1 0) (rwl (rwr ln_Dw a_Jo_0)) rfl (vpb_in g8) dX3_begin_37 (fun H locs hP hD hS => ?_)
    have hP := cvP (stl (str ln_Dw sa_Jo_0) (rlt (rwr ln_Dw a_Jo_0))) hP
    have hD := cvD (stl (str ln_Dw sa_Jo_0) (rlt (rwr ln_Dw a_Jo_0))) hD
    obtain ⟨s9, es9⟩ : ∃ z, z = sA s7 0 ((1 : Int32).toNatClampNeg) (sRo.1 1) := ⟨_, rfl⟩
    have hP : va_P D vwCl (wDw K hDw sDw ++ wJo K hJo (hDw 99) gJo4 gJo5 s9 ++ wRo K hRo sRo) H := by rw [es9]; exact hP
    have hD : va_D A (wDw K hDw sDw ++ wJo K hJo (hDw 99) gJo4 gJo5 s9 ++ wRo K hRo sRo) := by rw [es9]; exact hD
    have hf := lz_s hf s9 es9
    refine lv_aload_n hx hb dX3_begin_38 rfl (lv_at hl 0 rfl) ?_
    refine lv_aload_n hx hb dX3_begin_39 rfl (lv_at hl 1 rfl) ?_
    obtain ⟨o10, go10, hf⟩ := bd_s hf
    refine rs_Vv (As := [.ref (hRo 99)]) (rest := []) ⟨hx, hb, hml, hown, hts⟩ (c_X3_seePump l D K F hDw hJo gJo4 gJo5 hRo H.size sDw s9 sRo o10 go10) (cwV 1 hts (gcV_X3_seePump (mB16 _ (List.mem_of_getElem? (i := 20) rfl))) rfl rfl rfl hdV_X3_seePump ⟨Nat.le_of_ble_eq_true rfl, Nat.le_of_ble_eq_true rfl⟩) hK hP hD hS hA (va_recv hK hP (ci := 3) (q0 := (1 + 0)) rfl (rwl (rwr ln_Dw o_Jo))) rfl hl.1 rfl (Nat.le_of_ble_eq_true rfl) dX3_begin_40 ⟨Nat.zero_le _, Nat.zero_le _⟩ (fun H locs hP hD hS => ?_)
    have hP : va_P D vwCl (wDw K hDw o10.1 ++ wJo K hJo (hDw 99) gJo4 gJo5 o10.2 ++ wRo K hRo sRo) H := hP
    have hD : va_D A (wDw K hDw o10.1 ++ wJo K hJo (hDw 99) gJo4 gJo5 o10.2 ++ wRo K hRo sRo) := hD
    have e9 := Option.some.inj hf
    rw [hQ]
    exact W.vret hx hb hr (fun t ht hW => ⟨⟨(o10.1, o10.2), rfl, e9, ⟨by rw [ht]; exact hP, va_K.moved hW.alike hK, hD⟩⟩, hS.F ht⟩) hS.2.2 dX3_begin_43
  rw [hHe] at hgo
  exact hgo

def wz_X3_keep : List Cond := .code yX3_keep cX3_keep 1 none :: wsL_law
abbrev r_X3_keep : Room := { frames := 1, cells := 0, slots := 0, locals := 26 }
set_option maxHeartbeats 4000000 in
set_option maxRecDepth 100000 in
theorem c_X3_keep (l : Launch) (D : va_G) (K : Nat → ClassId) (F : Nat) (hJo : Nat → Nat) (rJo6 : Nat) (gJo5 : Nat → Nat) (hJk : Nat → Nat) (sz : Nat) (sJo : MS) (sJk : MS) (res : MS × MS) (hf : f_X3_keep F sJo sJk = some res) : Met l yX3_keep wz_X3_keep r_X3_keep (va_Pc [.ref (hJo 99)] (PW D K (wJo K hJo rJo6 hJk gJo5 sJo ++ wJk K hJk sJk) sz)) (va_Qv (fun u => u = res) (fun u t => BW D K (va_A (wJo K hJo rJo6 hJk gJo5 sJo ++ wJk K hJk sJk) sz) (wJo K hJo rJo6 hJk gJo5 u.1 ++ wJk K hJk u.2) t) (va_A (wJo K hJo rJo6 hJk gJo5 sJo ++ wJk K hJk sJk) sz)) 0 0 (va_A (wJo K hJo rJo6 hJk gJo5 sJo ++ wJk K hJk sJk) sz) := by
  refine Met.ofW (cc := cX3_keep) (maxL := 1) (ret := none) (by decide) rfl ?_
  intro p e s m args below meth c s₁ B hml hv
  obtain ⟨hargs, hsz, hP, hK, hD0⟩ := hv
  have hx := B.exec
  have hb := B.bytes
  have hr := B.returns
  have hts := atoms_spec (ws := wz_X3_keep) B.pre
  have htl : ∀ w ∈ wsL_law, w.before args s = true := fun w h => hts w (List.mem_cons_of_mem _ h)
  have hown : s.vm.findClass RX3 = some m.cls := findClass_of_methodNamed B.named
  have hlocks := B.notSynchronized
  subst hsz
  have hD := hD0.self (sz := s.heap.size)
  generalize hAe : va_A (wJo K hJo rJo6 hJk gJo5 sJo ++ wJk K hJk sJk) s.heap.size = A at hD ⊢
  have hA : ∀ q : Nat, s.heap.size ≤ q → A q := fun q h => by rw [← hAe]; exact Or.inr h
  have hS : va_S A s.heap s.heap [] := va_S.rf
  have iX3 : ∀ w ∈ wsX30, w ∈ wz_X3_keep := fun w h => List.mem_cons_of_mem _ (inlX3 w h)
  suffices hgo : ∀ Q : State → Prop, Q = MQ below (va_Qv (fun u => u = res) (fun u t => BW D K A (wJo K hJo rJo6 hJk gJo5 u.1 ++ wJk K hJk u.2) t) A) args s 0 0 A → W p l e (headSpec wz_X3_keep r_X3_keep).room s m args below meth c s.heap [] 0 0 Q (entryFrame m args 1) from hgo _ rfl
  intro Q hQ
  have hen : entryFrame m args 1 = entryFrame m (([.ref (hJo 99)] : List Value).toArray) 1 := by rw [hargs]
  have hl := lv_entry ([.ref (hJo 99)]) (n := 1) (Nat.le_of_ble_eq_true rfl)
  rw [hen, lg_entry_eq]
  generalize (lg_sl ([.ref (hJo 99)]) ++ List.replicate (1 - (lg_sl ([.ref (hJo 99)])).length) Slot.unset).toArray = ls at hl ⊢
  have hl : lv_has ls 1 [(0, .ref (hJo 99))] := hl
  unfold f_X3_keep at hf
  obtain ⟨H, hHe⟩ : ∃ z, z = s.heap := ⟨_, rfl⟩
  obtain ⟨locs, hLe⟩ : ∃ z : List Loc, z = [] := ⟨_, rfl⟩
  rw [← hLe]
  have hS : va_S A s.heap H locs := by rw [hHe, hLe]; exact hS
  have hP : va_P D vwCl (wJo K hJo rJo6 hJk gJo5 sJo ++ wJk K hJk sJk) H := by rw [hHe]; exact hP
  have hgo : W p l e (headSpec wz_X3_keep r_X3_keep).room s m args below meth c H locs 0 0 Q (F0 m 0 ls []) := by
    refine lv_aload_n hx hb dX3_keep_0 rfl (lv_at hl 0 rfl) ?_
    refine lv_aload_n hx hb dX3_keep_1 rfl (lv_at hl 0 rfl) ?_
    refine va_get (D := D) (ci := 3) (v := .int (sJo.1 3)) (C := RX3) (T := TX3) (N := 7) hx hb hts iX3 hown hK hP 0 (rwl o_Jo) rfl 3 (by decide) (htl _ (mB62 _ (List.mem_of_getElem? (i := 17) rfl))) (fun _ h9 => h9) rfl dX3_keep_2 ?_
    refine lv_iconst (v := (1 : Int32)) hx hb dX3_keep_5 (by decide) ?_
    refine lv_iadd hx hb dX3_keep_6 ?_
    refine lv_bipush (v := (12 : Int32)) hx hb dX3_keep_7 (by decide) ?_
    refine lv_irem hx hb dX3_keep_9 (by decide) ?_
    refine lv_topi (fun v1 ev1 => ?_)
    have hf := lz_s hf v1 ev1
    refine va_put (D := D) (ci := 3) (v := .int v1) (ty := .int) (C := RX3) (T := TX3) (N := 7) hx hb hts iX3 tyX3 tyX3_ok nmX3 hown hK hP hD hS 0 (rwl o_Jo) rfl 3 (by decide) (htl _ (mB62 _ (List.mem_of_getElem? (i := 17) rfl))) (fun _ h9 => h9) rfl (by decide +kernel) rfl rfl (Nat.le_of_ble_eq_true rfl) dX3_keep_10 (fun H locs hP hD hS => ?_)
    have hP := cvP (stl si_Jo_3 (rlt o_Jo)) hP
    have hD := cvD (stl si_Jo_3 (rlt o_Jo)) hD
    obtain ⟨s2, es2⟩ : ∃ z, z = sI sJo 3 v1 := ⟨_, rfl⟩
    have hP : va_P D vwCl (wJo K hJo rJo6 hJk gJo5 s2 ++ wJk K hJk sJk) H := by rw [es2]; exact hP
    have hD : va_D A (wJo K hJo rJo6 hJk gJo5 s2 ++ wJk K hJk sJk) := by rw [es2]; exact hD
    have hf := lz_s hf s2 es2
    refine lv_aload_n hx hb dX3_keep_13 rfl (lv_at hl 0 rfl) ?_
    refine va_get (D := D) (ci := 3) (v := .ref (hJo 0)) (C := RX3) (T := TX3) (N := 7) hx hb hts iX3 hown hK hP 0 (rwl o_Jo) rfl 0 (by decide) (htl _ (mB5 _ (List.mem_of_getElem? (i := 10) rfl))) (fun _ h9 => h9) rfl dX3_keep_14 ?_
    refine lv_iconst (v := (0 : Int32)) hx hb dX3_keep_17 (by decide) ?_
    refine lv_aload_n hx hb dX3_keep_18 rfl (lv_at hl 0 rfl) ?_
    refine va_get (D := D) (ci := 3) (v := .ref (hJo 4)) (C := RX3) (T := TX3) (N := 7) hx hb hts iX3 hown hK hP 0 (rwl o_Jo) rfl 4 (by decide) (htl _ (mB5 _ (List.mem_of_getElem? (i := 12) rfl))) (fun _ h9 => h9) rfl dX3_keep_19 ?_
    refine lv_aload_n hx hb dX3_keep_22 rfl (lv_at hl 0 rfl) ?_
    refine va_get (D := D) (ci := 3) (v := .int (s2.1 3)) (C := RX3) (T := TX3) (N := 7) hx hb hts iX3 hown hK hP 0 (rwl o_Jo) rfl 3 (by decide) (htl _ (mB62 _ (List.mem_of_getElem? (i := 17) rfl))) (fun _ h9 => h9) rfl dX3_keep_23 ?_
    obtain ⟨g3, hf⟩ := gd_s hf
    refine va_ald2 (r := hJk ((s2.1 3).toNatClampNeg)) hx hb hK hP 2 3 (rwl a_Jo_4) rfl (vpb_in g3) (if_pos (vpb_lt g3)) dX3_keep_26 ?_
    refine lv_iconst (v := (0 : Int32)) hx hb dX3_keep_27 (by decide) ?_
    refine lv_bipush (v := (7 : Int32)) hx hb dX3_keep_28 (by decide) ?_
    refine va_copyi hx hb (hml.trans hl.1.symm) hown (htl _ (mB62 _ (List.mem_of_getElem? (i := 18) rfl))) (htl _ (mB56 _ (List.mem_of_getElem? (i := 3) rfl))) (htl _ (mB56 _ (List.mem_of_getElem? (i := 4) rfl))) (htl _ (mB56 _ (List.mem_of_getElem? (i := 5) rfl))) hK hP hD hS 1 (4 + (s2.1 3).toNatClampNeg) 0 0 (f := s2.2.2.1 0) (g := sJk.2.2.1 ((s2.1 3).toNatClampNeg)) (rwl a_Jo_0) (rwr (n := 4) rfl (wJk_r ((s2.1 3).toNatClampNeg) (vpb_lt g3))) rfl rfl rfl (by decide) (by decide) (by decide) (by decide) (by decide) (fun _ _ => rfl) (Nat.le_of_ble_eq_true rfl) (Nat.le_of_ble_eq_true rfl) dX3_keep_30 (fun H locs hP hD hS => ?_)
    rw [str (n := 4) rfl (wJk_w ((s2.1 3).toNatClampNeg) (vpb_lt g3))] at hP hD
    obtain ⟨s4, es4⟩ : ∃ z, z = wA sJk ((s2.1 3).toNatClampNeg) (va_cpy (s2.2.2.1 0) (sJk.2.2.1 ((s2.1 3).toNatClampNeg)) (0 : Int32).toNatClampNeg (0 : Int32).toNatClampNeg (7 : Int32).toNatClampNeg) := ⟨_, rfl⟩
    have hP : va_P D vwCl (wJo K hJo rJo6 hJk gJo5 s2 ++ wJk K hJk s4) H := by rw [es4]; exact hP
    have hD : va_D A (wJo K hJo rJo6 hJk gJo5 s2 ++ wJk K hJk s4) := by rw [es4]; exact hD
    have hf := lz_s hf s4 es4
    refine lv_aload_n hx hb dX3_keep_33 rfl (lv_at hl 0 rfl) ?_
    refine lv_bipush (v := (12 : Int32)) hx hb dX3_keep_34 (by decide) ?_
    refine lv_aload_n hx hb dX3_keep_36 rfl (lv_at hl 0 rfl) ?_
    refine va_get (D := D) (ci := 3) (v := .int (s2.1 1)) (C := RX3) (T := TX3) (N := 7) hx hb hts iX3 hown hK hP 0 (rwl o_Jo) rfl 1 (by decide) (htl _ (mB16 _ (List.mem_of_getElem? (i := 12) rfl))) (fun _ h9 => h9) rfl dX3_keep_37 ?_
    refine lv_iconst (v := (1 : Int32)) hx hb dX3_keep_40 (by decide) ?_
    refine lv_iadd hx hb dX3_keep_41 ?_
    refine va_mmin hx hb (hml.trans hl.1.symm) hown (htl _ (mB62 _ (List.mem_of_getElem? (i := 19) rfl))) (htl _ (mB49 _ (List.mem_of_getElem? (i := 1) rfl))) (htl _ (mB9 _ (List.mem_of_getElem? (i := 9) rfl))) (htl _ (mB49 _ (List.mem_of_getElem? (i := 2) rfl))) (Nat.le_of_ble_eq_true rfl) (Nat.le_of_ble_eq_true rfl) (Nat.zero_le _) (Nat.zero_le _) dX3_keep_42 ?_
    refine lv_topi (fun v5 ev5 => ?_)
    have hf := lz_s hf v5 ev5
    refine va_put (D := D) (ci := 3) (v := .int v5) (ty := .int) (C := RX3) (T := TX3) (N := 7) hx hb hts iX3 tyX3 tyX3_ok nmX3 hown hK hP hD hS 0 (rwl o_Jo) rfl 1 (by decide) (htl _ (mB16 _ (List.mem_of_getElem? (i := 12) rfl))) (fun _ h9 => h9) rfl (by decide +kernel) rfl rfl (Nat.le_of_ble_eq_true rfl) dX3_keep_45 (fun H locs hP hD hS => ?_)
    have hP := cvP (stl si_Jo_1 (rlt o_Jo)) hP
    have hD := cvD (stl si_Jo_1 (rlt o_Jo)) hD
    obtain ⟨s6, es6⟩ : ∃ z, z = sI s2 1 v5 := ⟨_, rfl⟩
    have hP : va_P D vwCl (wJo K hJo rJo6 hJk gJo5 s6 ++ wJk K hJk s4) H := by rw [es6]; exact hP
    have hD : va_D A (wJo K hJo rJo6 hJk gJo5 s6 ++ wJk K hJk s4) := by rw [es6]; exact hD
    have hf := lz_s hf s6 es6
    have e9 := Option.some.inj hf
    rw [hQ]
    exact W.vret hx hb hr (fun t ht hW => ⟨⟨(s6, s4), rfl, e9, ⟨by rw [ht]; exact hP, va_K.moved hW.alike hK, hD⟩⟩, hS.F ht⟩) hS.2.2 dX3_keep_48
  rw [hHe] at hgo
  exact hgo

theorem gcV_X3_keep {T0 : Cond} {own : String} {i : Nat} (h : Cond.methodLink own i yX3_keep ∈ wsL_law) : GoodIn (T0 :: wsL_law) (wsV own i RX3 yX3_keep wz_X3_keep) := gV h (mB62 _ (List.mem_of_getElem? (i := 14) rfl)) (mB62 _ (List.mem_of_getElem? (i := 15) rfl)) (mB2 _ (List.mem_of_getElem? (i := 18) rfl)) (mB62 _ (List.mem_of_getElem? (i := 16) rfl))
theorem hdV_X3_keep : yX3_keep.cls = RX3 ∧ yX3_keep.cls ≠ "java/lang/invoke/MethodHandle" ∧ yX3_keep.cls ≠ "java/lang/invoke/VarHandle" ∧ (parseMethodDescriptor yX3_keep.desc).map (fun d => d.parameters.length) = some 0 := by decide +kernel
def wz_X3_takeIn : List Cond := .code yX3_takeIn cX3_takeIn 3 none :: wsL_law
abbrev r_X3_takeIn : Room := { frames := 2, cells := 0, slots := 0, locals := 46 }
set_option maxHeartbeats 4000000 in
set_option maxRecDepth 100000 in
theorem c_X3_takeIn (l : Launch) (D : va_G) (K : Nat → ClassId) (F : Nat) (hJo : Nat → Nat) (rJo6 : Nat) (gJo5 : Nat → Nat) (hJk : Nat → Nat) (hRo : Nat → Nat) (sz : Nat) (sJo : MS) (sJk : MS) (sRo : MS) (p2 : Int32) (res : MS × MS) (hf : f_X3_takeIn F sRo p2 sJo sJk = some res) : Met l yX3_takeIn wz_X3_takeIn r_X3_takeIn (va_Pc [.ref (hJo 99), .ref (hRo 99), .int p2] (PW D K (wJo K hJo rJo6 hJk gJo5 sJo ++ wJk K hJk sJk ++ wRo K hRo sRo) sz)) (va_Qv (fun u => u = res) (fun u t => BW D K (va_A (wJo K hJo rJo6 hJk gJo5 sJo ++ wJk K hJk sJk ++ wRo K hRo sRo) sz) (wJo K hJo rJo6 hJk gJo5 u.1 ++ wJk K hJk u.2 ++ wRo K hRo sRo) t) (va_A (wJo K hJo rJo6 hJk gJo5 sJo ++ wJk K hJk sJk ++ wRo K hRo sRo) sz)) 0 0 (va_A (wJo K hJo rJo6 hJk gJo5 sJo ++ wJk K hJk sJk ++ wRo K hRo sRo) sz) := by
  refine Met.ofW (cc := cX3_takeIn) (maxL := 3) (ret := none) (by decide) rfl ?_
  intro p e s m args below meth c s₁ B hml hv
  obtain ⟨hargs, hsz, hP, hK, hD0⟩ := hv
  have hx := B.exec
  have hb := B.bytes
  have hr := B.returns
  have hts := atoms_spec (ws := wz_X3_takeIn) B.pre
  have htl : ∀ w ∈ wsL_law, w.before args s = true := fun w h => hts w (List.mem_cons_of_mem _ h)
  have hown : s.vm.findClass RX3 = some m.cls := findClass_of_methodNamed B.named
  have hlocks := B.notSynchronized
  subst hsz
  have hD := hD0.self (sz := s.heap.size)
  generalize hAe : va_A (wJo K hJo rJo6 hJk gJo5 sJo ++ wJk K hJk sJk ++ wRo K hRo sRo) s.heap.size = A at hD ⊢
  have hA : ∀ q : Nat, s.heap.size ≤ q → A q := fun q h => by rw [← hAe]; exact Or.inr h
  have hS : va_S A s.heap s.heap [] := va_S.rf
  have iX3 : ∀ w ∈ wsX30, w ∈ wz_X3_takeIn := fun w h => List.mem_cons_of_mem _ (inlX3 w h)
  have iX9 : ∀ w ∈ wsX90, w ∈ wz_X3_takeIn := fun w h => List.mem_cons_of_mem _ (inlX9 w h)
  suffices hgo : ∀ Q : State → Prop, Q = MQ below (va_Qv (fun u => u = res) (fun u t => BW D K A (wJo K hJo rJo6 hJk gJo5 u.1 ++ wJk K hJk u.2 ++ wRo K hRo sRo) t) A) args s 0 0 A → W p l e (headSpec wz_X3_takeIn r_X3_takeIn).room s m args below meth c s.heap [] 0 0 Q (entryFrame m args 3) from hgo _ rfl
  intro Q hQ
  have w46 : ∀ (sJo : MS), ∀ (sJk : MS), ∀ (H : Heap) (locs : List Loc) (ls : Array Slot), f_X3_takeIn_46 F sRo p2 sJo sJk = some res → va_P D vwCl (wJo K hJo rJo6 hJk gJo5 sJo ++ wJk K hJk sJk ++ wRo K hRo sRo) H → va_D A (wJo K hJo rJo6 hJk gJo5 sJo ++ wJk K hJk sJk ++ wRo K hRo sRo) → va_S A s.heap H locs → lv_has ls 3 [(0, .ref (hJo 99)), (2, .int p2)] → W p l e (headSpec wz_X3_takeIn r_X3_takeIn).room s m args below meth c H locs 0 0 Q (F0 m 46 ls []) := by
    intro sJo sJk H locs ls hf hP hD hS hl
    unfold f_X3_takeIn_46 at hf
    refine lv_aload_n hx hb dX3_takeIn_46 rfl (lv_at hl 0 rfl) ?_
    refine va_get (D := D) (ci := 3) (v := .ref (hJo 0)) (C := RX3) (T := TX3) (N := 7) hx hb hts iX3 hown hK hP 0 (rwl (rwl o_Jo)) rfl 0 (by decide) (htl _ (mB5 _ (List.mem_of_getElem? (i := 10) rfl))) (fun _ h9 => h9) rfl dX3_takeIn_47 ?_
    refine lv_iconst (v := (1 : Int32)) hx hb dX3_takeIn_50 (by decide) ?_
    refine lv_dup2_11 hx hb dX3_takeIn_51 rfl rfl ?_
    obtain ⟨g15, hf⟩ := gd_s hf
    refine va_iald hx hb hK hP 1 0 (f := sJo.2.2.1 0) (rwl (rwl a_Jo_0)) rfl (vpb_in g15) dX3_takeIn_52 ?_
    refine lv_topi (fun v16 ev16 => ?_)
    have hf := lz_s hf v16 ev16
    refine lv_iload_n hx hb dX3_takeIn_53 rfl (lv_at hl 1 rfl) ?_
    refine lv_iadd hx hb dX3_takeIn_54 ?_
    obtain ⟨g17, hf⟩ := gd_s hf
    refine va_iast hx hb hK hP hD hS 1 0 (f := sJo.2.2.1 0) (rwl (rwl a_Jo_0)) rfl (vpb_in g17) dX3_takeIn_55 (fun H locs hP hD hS => ?_)
    have hP := cvP (stl (stl sa_Jo_0 (rlt a_Jo_0)) (rlt (rwl a_Jo_0))) hP
    have hD := cvD (stl (stl sa_Jo_0 (rlt a_Jo_0)) (rlt (rwl a_Jo_0))) hD
    obtain ⟨s18, es18⟩ : ∃ z, z = sA sJo 0 ((1 : Int32).toNatClampNeg) (v16 + p2) := ⟨_, rfl⟩
    have hP : va_P D vwCl (wJo K hJo rJo6 hJk gJo5 s18 ++ wJk K hJk sJk ++ wRo K hRo sRo) H := by rw [es18]; exact hP
    have hD : va_D A (wJo K hJo rJo6 hJk gJo5 s18 ++ wJk K hJk sJk ++ wRo K hRo sRo) := by rw [es18]; exact hD
    have hf := lz_s hf s18 es18
    refine lv_aload_n hx hb dX3_takeIn_56 rfl (lv_at hl 0 rfl) ?_
    refine va_get (D := D) (ci := 3) (v := .ref (hJo 0)) (C := RX3) (T := TX3) (N := 7) hx hb hts iX3 hown hK hP 0 (rwl (rwl o_Jo)) rfl 0 (by decide) (htl _ (mB5 _ (List.mem_of_getElem? (i := 10) rfl))) (fun _ h9 => h9) rfl dX3_takeIn_57 ?_
    refine lv_iconst (v := (2 : Int32)) hx hb dX3_takeIn_60 (by decide) ?_
    refine lv_dup2_11 hx hb dX3_takeIn_61 rfl rfl ?_
    obtain ⟨g19, hf⟩ := gd_s hf
    refine va_iald hx hb hK hP 1 0 (f := s18.2.2.1 0) (rwl (rwl a_Jo_0)) rfl (vpb_in g19) dX3_takeIn_62 ?_
    refine lv_topi (fun v20 ev20 => ?_)
    have hf := lz_s hf v20 ev20
    refine lv_iload_n hx hb dX3_takeIn_63 rfl (lv_at hl 1 rfl) ?_
    refine lv_aload_n hx hb dX3_takeIn_64 rfl (lv_at hl 0 rfl) ?_
    refine va_get (D := D) (ci := 3) (v := .ref (hJo 0)) (C := RX3) (T := TX3) (N := 7) hx hb hts iX3 hown hK hP 0 (rwl (rwl o_Jo)) rfl 0 (by decide) (htl _ (mB5 _ (List.mem_of_getElem? (i := 10) rfl))) (fun _ h9 => h9) rfl dX3_takeIn_65 ?_
    refine lv_iconst (v := (4 : Int32)) hx hb dX3_takeIn_68 (by decide) ?_
    obtain ⟨g21, hf⟩ := gd_s hf
    refine va_iald hx hb hK hP 1 0 (f := s18.2.2.1 0) (rwl (rwl a_Jo_0)) rfl (vpb_in g21) dX3_takeIn_69 ?_
    refine lv_topi (fun v22 ev22 => ?_)
    have hf := lz_s hf v22 ev22
    refine lv_imul hx hb dX3_takeIn_70 ?_
    refine lv_iadd hx hb dX3_takeIn_71 ?_
    obtain ⟨g23, hf⟩ := gd_s hf
    refine va_iast hx hb hK hP hD hS 1 0 (f := s18.2.2.1 0) (rwl (rwl a_Jo_0)) rfl (vpb_in g23) dX3_takeIn_72 (fun H locs hP hD hS => ?_)
    have hP := cvP (stl (stl sa_Jo_0 (rlt a_Jo_0)) (rlt (rwl a_Jo_0))) hP
    have hD := cvD (stl (stl sa_Jo_0 (rlt a_Jo_0)) (rlt (rwl a_Jo_0))) hD
    obtain ⟨s24, es24⟩ : ∃ z, z = sA s18 0 ((2 : Int32).toNatClampNeg) (v20 + (p2 * v22)) := ⟨_, rfl⟩
    have hP : va_P D vwCl (wJo K hJo rJo6 hJk gJo5 s24 ++ wJk K hJk sJk ++ wRo K hRo sRo) H := by rw [es24]; exact hP
    have hD : va_D A (wJo K hJo rJo6 hJk gJo5 s24 ++ wJk K hJk sJk ++ wRo K hRo sRo) := by rw [es24]; exact hD
    have hf := lz_s hf s24 es24
    have e9 := Option.some.inj hf
    rw [hQ]
    exact W.vret hx hb hr (fun t ht hW => ⟨⟨(s24, sJk), rfl, e9, ⟨by rw [ht]; exact hP, va_K.moved hW.alike hK, hD⟩⟩, hS.F ht⟩) hS.2.2 dX3_takeIn_73
  have hen : entryFrame m args 3 = entryFrame m (([.ref (hJo 99), .ref (hRo 99), .int p2] : List Value).toArray) 3 := by rw [hargs]
  have hl := lv_entry ([.ref (hJo 99), .ref (hRo 99), .int p2]) (n := 3) (Nat.le_of_ble_eq_true rfl)
  rw [hen, lg_entry_eq]
  generalize (lg_sl ([.ref (hJo 99), .ref (hRo 99), .int p2]) ++ List.replicate (3 - (lg_sl ([.ref (hJo 99), .ref (hRo 99), .int p2])).length) Slot.unset).toArray = ls at hl ⊢
  have hl : lv_has ls 3 [(0, .ref (hJo 99)), (1, .ref (hRo 99)), (2, .int p2)] := hl
  unfold f_X3_takeIn at hf
  obtain ⟨H, hHe⟩ : ∃ z, z = s.heap := ⟨_, rfl⟩
  obtain ⟨locs, hLe⟩ : ∃ z : List Loc, z = [] := ⟨_, rfl⟩
  rw [← hLe]
  have hS : va_S A s.heap H locs := by rw [hHe, hLe]; exact hS
  have hP : va_P D vwCl (wJo K hJo rJo6 hJk gJo5 sJo ++ wJk K hJk sJk ++ wRo K hRo sRo) H := by rw [hHe]; exact hP
  have hgo : W p l e (headSpec wz_X3_takeIn r_X3_takeIn).room s m args below meth c H locs 0 0 Q (F0 m 0 ls []) := by
    refine lv_aload_n hx hb dX3_takeIn_0 rfl (lv_at hl 0 rfl) ?_
    obtain ⟨o1, go1, hf⟩ := bd_s hf
    refine rk_Vv (wn := wJo K hJo rJo6 hJk gJo5 o1.1 ++ wJk K hJk o1.2 ++ wRo K hRo sRo) [wJo K hJo rJo6 hJk gJo5 sJo, wJk K hJk sJk, wRo K hRo sRo] [wJo K hJo rJo6 hJk gJo5 sJo, wJk K hJk sJk] [wJo K hJo rJo6 hJk gJo5 o1.1, wJk K hJk o1.2] [wJo K hJo rJo6 hJk gJo5 o1.1, wJk K hJk o1.2, wRo K hRo sRo] (As := []) (rest := []) ⟨hx, hb, hml, hown, hts⟩ (c_X3_keep l D K F hJo rJo6 gJo5 hJk H.size sJo sJk o1 go1) (cwV 0 hts (gcV_X3_keep (mB62 _ (List.mem_of_getElem? (i := 13) rfl))) rfl rfl rfl hdV_X3_keep ⟨Nat.le_of_ble_eq_true rfl, Nat.le_of_ble_eq_true rfl⟩) hK hP hD hS hA [0, 1] (fl3 _ _ _) rfl (by decide) (fl2 _ _) (fl2 _ _) rfl rfl (fl3 _ _ _) (va_recv hK hP (ci := 3) (q0 := 0) rfl (rwl (rwl o_Jo))) rfl hl.1 rfl (Nat.le_of_ble_eq_true rfl) dX3_takeIn_1 ⟨Nat.zero_le _, Nat.zero_le _⟩ (fun H locs hP hD hS => ?_)
    have hP : va_P D vwCl (wJo K hJo rJo6 hJk gJo5 o1.1 ++ wJk K hJk o1.2 ++ wRo K hRo sRo) H := hP
    have hD : va_D A (wJo K hJo rJo6 hJk gJo5 o1.1 ++ wJk K hJk o1.2 ++ wRo K hRo sRo) := hD
    refine lv_aload_n hx hb dX3_takeIn_4 rfl (lv_at hl 0 rfl) ?_
    refine va_get (D := D) (ci := 3) (v := .ref (hJo 0)) (C := RX3) (T := TX3) (N := 7) hx hb hts iX3 hown hK hP 0 (rwl (rwl o_Jo)) rfl 0 (by decide) (htl _ (mB5 _ (List.mem_of_getElem? (i := 10) rfl))) (fun _ h9 => h9) rfl dX3_takeIn_5 ?_
    refine lv_iconst (v := (5 : Int32)) hx hb dX3_takeIn_8 (by decide) ?_
    obtain ⟨g2, hf⟩ := gd_s hf
    refine va_iald hx hb hK hP 1 0 (f := o1.1.2.2.1 0) (rwl (rwl a_Jo_0)) rfl (vpb_in g2) dX3_takeIn_9 ?_
    refine lv_topi (fun v3 ev3 => ?_)
    have hf := lz_s hf v3 ev3
    refine lv_if_ne (tgt := 46) hx hb dX3_takeIn_10 (by decide) (fun c4 => ?_) (fun c4 => ?_)
    · have hf := it_f hf c4
      exact w46 o1.1 o1.2 H locs ls hf hP hD hS (lv_sub hl [0, 2] rfl)
    · have hf := it_t hf c4
      refine lv_aload_n hx hb dX3_takeIn_13 rfl (lv_at hl 0 rfl) ?_
      refine va_get (D := D) (ci := 3) (v := .ref (hJo 0)) (C := RX3) (T := TX3) (N := 7) hx hb hts iX3 hown hK hP 0 (rwl (rwl o_Jo)) rfl 0 (by decide) (htl _ (mB5 _ (List.mem_of_getElem? (i := 10) rfl))) (fun _ h9 => h9) rfl dX3_takeIn_14 ?_
      refine lv_iconst (v := (2 : Int32)) hx hb dX3_takeIn_17 (by decide) ?_
      refine lv_dup2_11 hx hb dX3_takeIn_18 rfl rfl ?_
      obtain ⟨g5, hf⟩ := gd_s hf
      refine va_iald hx hb hK hP 1 0 (f := o1.1.2.2.1 0) (rwl (rwl a_Jo_0)) rfl (vpb_in g5) dX3_takeIn_19 ?_
      refine lv_topi (fun v6 ev6 => ?_)
      have hf := lz_s hf v6 ev6
      refine lv_aload_n hx hb dX3_takeIn_20 rfl (lv_at hl 1 rfl) ?_
      refine va_get (D := D) (ci := 8) (v := .int (sRo.1 2)) (C := RX9) (T := TX9) (N := 19) hx hb hts iX9 hown hK hP ((4 + 12) + 0) (rwr (lnA ln_Jo ln_Jk) o_Ro) rfl 2 (by decide) (htl _ (mB62 _ (List.mem_of_getElem? (i := 11) rfl))) (fun _ h9 => h9) rfl dX3_takeIn_21 ?_
      refine lv_iadd hx hb dX3_takeIn_24 ?_
      obtain ⟨g7, hf⟩ := gd_s hf
      refine va_iast hx hb hK hP hD hS 1 0 (f := o1.1.2.2.1 0) (rwl (rwl a_Jo_0)) rfl (vpb_in g7) dX3_takeIn_25 (fun H locs hP hD hS => ?_)
      have hP := cvP (stl (stl sa_Jo_0 (rlt a_Jo_0)) (rlt (rwl a_Jo_0))) hP
      have hD := cvD (stl (stl sa_Jo_0 (rlt a_Jo_0)) (rlt (rwl a_Jo_0))) hD
      obtain ⟨s8, es8⟩ : ∃ z, z = sA o1.1 0 ((2 : Int32).toNatClampNeg) (v6 + (sRo.1 2)) := ⟨_, rfl⟩
      have hP : va_P D vwCl (wJo K hJo rJo6 hJk gJo5 s8 ++ wJk K hJk o1.2 ++ wRo K hRo sRo) H := by rw [es8]; exact hP
      have hD : va_D A (wJo K hJo rJo6 hJk gJo5 s8 ++ wJk K hJk o1.2 ++ wRo K hRo sRo) := by rw [es8]; exact hD
      have hf := lz_s hf s8 es8
      refine lv_aload_n hx hb dX3_takeIn_26 rfl (lv_at hl 0 rfl) ?_
      refine va_get (D := D) (ci := 3) (v := .ref (hJo 0)) (C := RX3) (T := TX3) (N := 7) hx hb hts iX3 hown hK hP 0 (rwl (rwl o_Jo)) rfl 0 (by decide) (htl _ (mB5 _ (List.mem_of_getElem? (i := 10) rfl))) (fun _ h9 => h9) rfl dX3_takeIn_27 ?_
      refine lv_iconst (v := (3 : Int32)) hx hb dX3_takeIn_30 (by decide) ?_
      refine lv_dup2_11 hx hb dX3_takeIn_31 rfl rfl ?_
      obtain ⟨g9, hf⟩ := gd_s hf
      refine va_iald hx hb hK hP 1 0 (f := s8.2.2.1 0) (rwl (rwl a_Jo_0)) rfl (vpb_in g9) dX3_takeIn_32 ?_
      refine lv_topi (fun v10 ev10 => ?_)
      have hf := lz_s hf v10 ev10
      refine lv_aload_n hx hb dX3_takeIn_33 rfl (lv_at hl 1 rfl) ?_
      refine va_get (D := D) (ci := 8) (v := .int (sRo.1 3)) (C := RX9) (T := TX9) (N := 19) hx hb hts iX9 hown hK hP ((4 + 12) + 0) (rwr (lnA ln_Jo ln_Jk) o_Ro) rfl 3 (by decide) (htl _ (mB62 _ (List.mem_of_getElem? (i := 12) rfl))) (fun _ h9 => h9) rfl dX3_takeIn_34 ?_
      refine lv_iadd hx hb dX3_takeIn_37 ?_
      obtain ⟨g11, hf⟩ := gd_s hf
      refine va_iast hx hb hK hP hD hS 1 0 (f := s8.2.2.1 0) (rwl (rwl a_Jo_0)) rfl (vpb_in g11) dX3_takeIn_38 (fun H locs hP hD hS => ?_)
      have hP := cvP (stl (stl sa_Jo_0 (rlt a_Jo_0)) (rlt (rwl a_Jo_0))) hP
      have hD := cvD (stl (stl sa_Jo_0 (rlt a_Jo_0)) (rlt (rwl a_Jo_0))) hD
      obtain ⟨s12, es12⟩ : ∃ z, z = sA s8 0 ((3 : Int32).toNatClampNeg) (v10 + (sRo.1 3)) := ⟨_, rfl⟩
      have hP : va_P D vwCl (wJo K hJo rJo6 hJk gJo5 s12 ++ wJk K hJk o1.2 ++ wRo K hRo sRo) H := by rw [es12]; exact hP
      have hD : va_D A (wJo K hJo rJo6 hJk gJo5 s12 ++ wJk K hJk o1.2 ++ wRo K hRo sRo) := by rw [es12]; exact hD
      have hf := lz_s hf s12 es12
      refine lv_aload_n hx hb dX3_takeIn_39 rfl (lv_at hl 0 rfl) ?_
      refine va_get (D := D) (ci := 3) (v := .ref (hJo 0)) (C := RX3) (T := TX3) (N := 7) hx hb hts iX3 hown hK hP 0 (rwl (rwl o_Jo)) rfl 0 (by decide) (htl _ (mB5 _ (List.mem_of_getElem? (i := 10) rfl))) (fun _ h9 => h9) rfl dX3_takeIn_40 ?_
      refine lv_iconst (v := (5 : Int32)) hx hb dX3_takeIn_43 (by decide) ?_
      refine lv_iconst (v := (1 : Int32)) hx hb dX3_takeIn_44 (by decide) ?_
      obtain ⟨g13, hf⟩ := gd_s hf
      refine va_iast hx hb hK hP hD hS 1 0 (f := s12.2.2.1 0) (rwl (rwl a_Jo_0)) rfl (vpb_in g13) dX3_takeIn_45 (fun H locs hP hD hS => ?_)
      have hP := cvP (stl (stl sa_Jo_0 (rlt a_Jo_0)) (rlt (rwl a_Jo_0))) hP
      have hD := cvD (stl (stl sa_Jo_0 (rlt a_Jo_0)) (rlt (rwl a_Jo_0))) hD
      obtain ⟨s14, es14⟩ : ∃ z, z = sA s12 0 ((5 : Int32).toNatClampNeg) (1 : Int32) := ⟨_, rfl⟩
      have hP : va_P D vwCl (wJo K hJo rJo6 hJk gJo5 s14 ++ wJk K hJk o1.2 ++ wRo K hRo sRo) H := by rw [es14]; exact hP
      have hD : va_D A (wJo K hJo rJo6 hJk gJo5 s14 ++ wJk K hJk o1.2 ++ wRo K hRo sRo) := by rw [es14]; exact hD
      have hf := lz_s hf s14 es14
      exact w46 s14 o1.2 H locs ls hf hP hD hS (lv_sub hl [0, 2] rfl)
  rw [hHe] at hgo
  exact hgo

def wz_X3_canGo : List Cond := .code yX3_canGo cX3_canGo 3 (some .boolean) :: wsL_law
abbrev r_X3_canGo : Room := { frames := 2, cells := 0, slots := 0, locals := 44 }
set_option maxHeartbeats 4000000 in
set_option maxRecDepth 100000 in
theorem c_X3_canGo (l : Launch) (D : va_G) (K : Nat → ClassId) (F : Nat) (hJo : Nat → Nat) (rJo6 : Nat) (gJo4 : Nat → Nat) (gJo5 : Nat → Nat) (hRo : Nat → Nat) (sJo : MS) (sRo : MS) (p2 : Int32) (res : Int32) (hf : f_X3_canGo F sJo sRo p2 = some res) : Met l yX3_canGo wz_X3_canGo r_X3_canGo (va_Pc [.ref (hJo 99), .ref (hRo 99), .int p2] (PR D K (wJo K hJo rJo6 gJo4 gJo5 sJo ++ wRo K hRo sRo))) (va_Qi (fun r (_ : Unit) => r = res) BN nOne) 0 0 nOne := by
  refine Met.ofW (cc := cX3_canGo) (maxL := 3) (ret := (some .boolean)) (by decide) rfl ?_
  intro p e s m args below meth c s₁ B hml hv
  obtain ⟨hargs, hP, hK⟩ := hv
  have hx := B.exec
  have hb := B.bytes
  have hr := B.returns
  have hts := atoms_spec (ws := wz_X3_canGo) B.pre
  have htl : ∀ w ∈ wsL_law, w.before args s = true := fun w h => hts w (List.mem_cons_of_mem _ h)
  have hown : s.vm.findClass RX3 = some m.cls := findClass_of_methodNamed B.named
  have hlocks := B.notSynchronized
  have hS : va_S nOne s.heap s.heap [] := va_S.rf
  have iX3 : ∀ w ∈ wsX30, w ∈ wz_X3_canGo := fun w h => List.mem_cons_of_mem _ (inlX3 w h)
  suffices hgo : ∀ Q : State → Prop, Q = MQ below (va_Qi (fun r (_ : Unit) => r = res) BN nOne) args s 0 0 nOne → W p l e (headSpec wz_X3_canGo r_X3_canGo).room s m args below meth c s.heap [] 0 0 Q (entryFrame m args 3) from hgo _ rfl
  intro Q hQ
  have hen : entryFrame m args 3 = entryFrame m (([.ref (hJo 99), .ref (hRo 99), .int p2] : List Value).toArray) 3 := by rw [hargs]
  have hl := lv_entry ([.ref (hJo 99), .ref (hRo 99), .int p2]) (n := 3) (Nat.le_of_ble_eq_true rfl)
  rw [hen, lg_entry_eq]
  generalize (lg_sl ([.ref (hJo 99), .ref (hRo 99), .int p2]) ++ List.replicate (3 - (lg_sl ([.ref (hJo 99), .ref (hRo 99), .int p2])).length) Slot.unset).toArray = ls at hl ⊢
  have hl : lv_has ls 3 [(0, .ref (hJo 99)), (1, .ref (hRo 99)), (2, .int p2)] := hl
  unfold f_X3_canGo at hf
  obtain ⟨H, hHe⟩ : ∃ z, z = s.heap := ⟨_, rfl⟩
  obtain ⟨locs, hLe⟩ : ∃ z : List Loc, z = [] := ⟨_, rfl⟩
  rw [← hLe]
  have hS : va_S nOne s.heap H locs := by rw [hHe, hLe]; exact hS
  have hP : va_P D vwCl (wJo K hJo rJo6 gJo4 gJo5 sJo ++ wRo K hRo sRo) H := by rw [hHe]; exact hP
  have hgo : W p l e (headSpec wz_X3_canGo r_X3_canGo).room s m args below meth c H locs 0 0 Q (F0 m 0 ls []) := by
    refine lv_aload_n hx hb dX3_canGo_0 rfl (lv_at hl 1 rfl) ?_
    refine lv_aload_n hx hb dX3_canGo_1 rfl (lv_at hl 0 rfl) ?_
    refine va_get (D := D) (ci := 3) (v := .ref (hJo 0)) (C := RX3) (T := TX3) (N := 7) hx hb hts iX3 hown hK hP 0 (rwl o_Jo) rfl 0 (by decide) (htl _ (mB5 _ (List.mem_of_getElem? (i := 10) rfl))) (fun _ h9 => h9) rfl dX3_canGo_2 ?_
    refine lv_iconst (v := (0 : Int32)) hx hb dX3_canGo_5 (by decide) ?_
    obtain ⟨g1, hf⟩ := gd_s hf
    refine va_iald hx hb hK hP 1 0 (f := sJo.2.2.1 0) (rwl a_Jo_0) rfl (vpb_in g1) dX3_canGo_6 ?_
    refine lv_topi (fun v2 ev2 => ?_)
    have hf := lz_s hf v2 ev2
    refine lv_iload_n hx hb dX3_canGo_7 rfl (lv_at hl 2 rfl) ?_
    obtain ⟨o3, go3, hf⟩ := bd_s hf
    refine ro_Vi (As := [.int v2, .int p2]) (rest := []) ⟨hx, hb, hml, hown, hts⟩ (c_X9_isRoad l D K F hRo sRo v2 p2 o3 go3) (cwV 2 hts (gcV_X9_isRoad (mB63 _ (List.mem_of_getElem? (i := 12) rfl))) rfl rfl rfl hdV_X9_isRoad ⟨Nat.le_of_ble_eq_true rfl, Nat.le_of_ble_eq_true rfl⟩) hK hP hS (va_PL (cs := [wJo K hJo rJo6 gJo4 gJo5 sJo, wRo K hRo sRo]) (cc := [wRo K hRo sRo]) hP (fl2 _ _) [1] rfl (fl1 _)) (va_recv hK hP (ci := 8) (q0 := (4 + 0)) rfl (rwr ln_Jo o_Ro)) rfl hl.1 rfl (Nat.le_of_ble_eq_true rfl) dX3_canGo_8 ⟨Nat.zero_le _, Nat.zero_le _⟩ (fun H locs hP hS => ?_)
    refine lv_if_eq (tgt := 38) hx hb dX3_canGo_11 (by decide) (fun c4 => ?_) (fun c4 => ?_)
    · have hf := it_t hf c4
      refine lv_iconst (v := (0 : Int32)) hx hb dX3_canGo_38 (by decide) ?_
      have e9 := Option.some.inj hf
      rw [hQ]
      exact W.zret (v := (0 : Int32)) hx hb hr rfl (fun t ht hW => ⟨⟨(0 : Int32), (), rfl, e9, trivial⟩, hS.F ht⟩) hS.2.2 dX3_canGo_39
    · have hf := it_f hf c4
      refine lv_aload_n hx hb dX3_canGo_14 rfl (lv_at hl 0 rfl) ?_
      refine va_get (D := D) (ci := 3) (v := .ref (hJo 0)) (C := RX3) (T := TX3) (N := 7) hx hb hts iX3 hown hK hP 0 (rwl o_Jo) rfl 0 (by decide) (htl _ (mB5 _ (List.mem_of_getElem? (i := 10) rfl))) (fun _ h9 => h9) rfl dX3_canGo_15 ?_
      refine lv_iconst (v := (1 : Int32)) hx hb dX3_canGo_18 (by decide) ?_
      obtain ⟨g5, hf⟩ := gd_s hf
      refine va_iald hx hb hK hP 1 0 (f := sJo.2.2.1 0) (rwl a_Jo_0) rfl (vpb_in g5) dX3_canGo_19 ?_
      refine lv_topi (fun v6 ev6 => ?_)
      have hf := lz_s hf v6 ev6
      refine lv_aload_n hx hb dX3_canGo_20 rfl (lv_at hl 1 rfl) ?_
      refine lv_aload_n hx hb dX3_canGo_21 rfl (lv_at hl 0 rfl) ?_
      refine va_get (D := D) (ci := 3) (v := .ref (hJo 0)) (C := RX3) (T := TX3) (N := 7) hx hb hts iX3 hown hK hP 0 (rwl o_Jo) rfl 0 (by decide) (htl _ (mB5 _ (List.mem_of_getElem? (i := 10) rfl))) (fun _ h9 => h9) rfl dX3_canGo_22 ?_
      refine lv_iconst (v := (0 : Int32)) hx hb dX3_canGo_25 (by decide) ?_
      obtain ⟨g7, hf⟩ := gd_s hf
      refine va_iald hx hb hK hP 1 0 (f := sJo.2.2.1 0) (rwl a_Jo_0) rfl (vpb_in g7) dX3_canGo_26 ?_
      refine lv_topi (fun v8 ev8 => ?_)
      have hf := lz_s hf v8 ev8
      refine lv_iload_n hx hb dX3_canGo_27 rfl (lv_at hl 2 rfl) ?_
      obtain ⟨o9, go9, hf⟩ := bd_s hf
      refine ro_Vi (As := [.int v8, .int p2]) (rest := [.int v6]) ⟨hx, hb, hml, hown, hts⟩ (c_X9_pintsOf l D K F hRo sRo v8 p2 o9 go9) (cwV 2 hts (gcV_X9_pintsOf (mB63 _ (List.mem_of_getElem? (i := 13) rfl))) rfl rfl rfl hdV_X9_pintsOf ⟨Nat.le_of_ble_eq_true rfl, Nat.le_of_ble_eq_true rfl⟩) hK hP hS (va_PL (cs := [wJo K hJo rJo6 gJo4 gJo5 sJo, wRo K hRo sRo]) (cc := [wRo K hRo sRo]) hP (fl2 _ _) [1] rfl (fl1 _)) (va_recv hK hP (ci := 8) (q0 := (4 + 0)) rfl (rwr ln_Jo o_Ro)) rfl hl.1 rfl (Nat.le_of_ble_eq_true rfl) dX3_canGo_28 ⟨Nat.zero_le _, Nat.zero_le _⟩ (fun H locs hP hS => ?_)
      refine lv_icmp_lt (tgt := 38) hx hb dX3_canGo_31 (by decide) (fun c10 => ?_) (fun c10 => ?_)
      · have hf := it_t hf c10
        refine lv_iconst (v := (0 : Int32)) hx hb dX3_canGo_38 (by decide) ?_
        have e9 := Option.some.inj hf
        rw [hQ]
        exact W.zret (v := (0 : Int32)) hx hb hr rfl (fun t ht hW => ⟨⟨(0 : Int32), (), rfl, e9, trivial⟩, hS.F ht⟩) hS.2.2 dX3_canGo_39
      · have hf := it_f hf c10
        refine lv_iconst (v := (1 : Int32)) hx hb dX3_canGo_34 (by decide) ?_
        refine lv_goto (tgt := 39) hx hb dX3_canGo_35 (by decide) ?_
        have e9 := Option.some.inj hf
        rw [hQ]
        exact W.zret (v := (1 : Int32)) hx hb hr rfl (fun t ht hW => ⟨⟨(1 : Int32), (), rfl, e9, trivial⟩, hS.F ht⟩) hS.2.2 dX3_canGo_39
  rw [hHe] at hgo
  exact hgo

def wz_X3_goTo : List Cond := .code yX3_goTo cX3_goTo 3 none :: wsL_law
abbrev r_X3_goTo : Room := { frames := 3, cells := 0, slots := 0, locals := 65 }
set_option maxHeartbeats 4000000 in
set_option maxRecDepth 100000 in
theorem c_X3_goTo (l : Launch) (D : va_G) (K : Nat → ClassId) (F : Nat) (hDw : Nat → Nat) (hJo : Nat → Nat) (gJo5 : Nat → Nat) (hJk : Nat → Nat) (hRo : Nat → Nat) (sz : Nat) (sDw : MS) (sJo : MS) (sJk : MS) (sRo : MS) (p2 : Int32) (res : MS × MS × MS) (hf : f_X3_goTo F sRo p2 sDw sJo sJk = some res) : Met l yX3_goTo wz_X3_goTo r_X3_goTo (va_Pc [.ref (hJo 99), .ref (hRo 99), .int p2] (PW D K (wDw K hDw sDw ++ wJo K hJo (hDw 99) hJk gJo5 sJo ++ wJk K hJk sJk ++ wRo K hRo sRo) sz)) (va_Qv (fun u => u = res) (fun u t => BW D K (va_A (wDw K hDw sDw ++ wJo K hJo (hDw 99) hJk gJo5 sJo ++ wJk K hJk sJk ++ wRo K hRo sRo) sz) (wDw K hDw u.1 ++ wJo K hJo (hDw 99) hJk gJo5 u.2.1 ++ wJk K hJk u.2.2 ++ wRo K hRo sRo) t) (va_A (wDw K hDw sDw ++ wJo K hJo (hDw 99) hJk gJo5 sJo ++ wJk K hJk sJk ++ wRo K hRo sRo) sz)) 0 0 (va_A (wDw K hDw sDw ++ wJo K hJo (hDw 99) hJk gJo5 sJo ++ wJk K hJk sJk ++ wRo K hRo sRo) sz) := by
  refine Met.ofW (cc := cX3_goTo) (maxL := 3) (ret := none) (by decide) rfl ?_
  intro p e s m args below meth c s₁ B hml hv
  obtain ⟨hargs, hsz, hP, hK, hD0⟩ := hv
  have hx := B.exec
  have hb := B.bytes
  have hr := B.returns
  have hts := atoms_spec (ws := wz_X3_goTo) B.pre
  have htl : ∀ w ∈ wsL_law, w.before args s = true := fun w h => hts w (List.mem_cons_of_mem _ h)
  have hown : s.vm.findClass RX3 = some m.cls := findClass_of_methodNamed B.named
  have hlocks := B.notSynchronized
  subst hsz
  have hD := hD0.self (sz := s.heap.size)
  generalize hAe : va_A (wDw K hDw sDw ++ wJo K hJo (hDw 99) hJk gJo5 sJo ++ wJk K hJk sJk ++ wRo K hRo sRo) s.heap.size = A at hD ⊢
  have hA : ∀ q : Nat, s.heap.size ≤ q → A q := fun q h => by rw [← hAe]; exact Or.inr h
  have hS : va_S A s.heap s.heap [] := va_S.rf
  have iX3 : ∀ w ∈ wsX30, w ∈ wz_X3_goTo := fun w h => List.mem_cons_of_mem _ (inlX3 w h)
  suffices hgo : ∀ Q : State → Prop, Q = MQ below (va_Qv (fun u => u = res) (fun u t => BW D K A (wDw K hDw u.1 ++ wJo K hJo (hDw 99) hJk gJo5 u.2.1 ++ wJk K hJk u.2.2 ++ wRo K hRo sRo) t) A) args s 0 0 A → W p l e (headSpec wz_X3_goTo r_X3_goTo).room s m args below meth c s.heap [] 0 0 Q (entryFrame m args 3) from hgo _ rfl
  intro Q hQ
  have hen : entryFrame m args 3 = entryFrame m (([.ref (hJo 99), .ref (hRo 99), .int p2] : List Value).toArray) 3 := by rw [hargs]
  have hl := lv_entry ([.ref (hJo 99), .ref (hRo 99), .int p2]) (n := 3) (Nat.le_of_ble_eq_true rfl)
  rw [hen, lg_entry_eq]
  generalize (lg_sl ([.ref (hJo 99), .ref (hRo 99), .int p2]) ++ List.replicate (3 - (lg_sl ([.ref (hJo 99), .ref (hRo 99), .int p2])).length) Slot.unset).toArray = ls at hl ⊢
  have hl : lv_has ls 3 [(0, .ref (hJo 99)), (1, .ref (hRo 99)), (2, .int p2)] := hl
  unfold f_X3_goTo at hf
  obtain ⟨H, hHe⟩ : ∃ z, z = s.heap := ⟨_, rfl⟩
  obtain ⟨locs, hLe⟩ : ∃ z : List Loc, z = [] := ⟨_, rfl⟩
  rw [← hLe]
  have hS : va_S A s.heap H locs := by rw [hHe, hLe]; exact hS
  have hP : va_P D vwCl (wDw K hDw sDw ++ wJo K hJo (hDw 99) hJk gJo5 sJo ++ wJk K hJk sJk ++ wRo K hRo sRo) H := by rw [hHe]; exact hP
  have hgo : W p l e (headSpec wz_X3_goTo r_X3_goTo).room s m args below meth c H locs 0 0 Q (F0 m 0 ls []) := by
    refine lv_aload_n hx hb dX3_goTo_0 rfl (lv_at hl 0 rfl) ?_
    obtain ⟨o1, go1, hf⟩ := bd_s hf
    refine rk_Vv (wn := wDw K hDw sDw ++ wJo K hJo (hDw 99) hJk gJo5 o1.1 ++ wJk K hJk o1.2 ++ wRo K hRo sRo) [wDw K hDw sDw, wJo K hJo (hDw 99) hJk gJo5 sJo, wJk K hJk sJk, wRo K hRo sRo] [wJo K hJo (hDw 99) hJk gJo5 sJo, wJk K hJk sJk] [wJo K hJo (hDw 99) hJk gJo5 o1.1, wJk K hJk o1.2] [wDw K hDw sDw, wJo K hJo (hDw 99) hJk gJo5 o1.1, wJk K hJk o1.2, wRo K hRo sRo] (As := []) (rest := []) ⟨hx, hb, hml, hown, hts⟩ (c_X3_keep l D K F hJo (hDw 99) gJo5 hJk H.size sJo sJk o1 go1) (cwV 0 hts (gcV_X3_keep (mB62 _ (List.mem_of_getElem? (i := 13) rfl))) rfl rfl rfl hdV_X3_keep ⟨Nat.le_of_ble_eq_true rfl, Nat.le_of_ble_eq_true rfl⟩) hK hP hD hS hA [1, 2] (fl4 _ _ _ _) rfl (by decide) (fl2 _ _) (fl2 _ _) rfl rfl (fl4 _ _ _ _) (va_recv hK hP (ci := 3) (q0 := (1 + 0)) rfl (rwl (rwl (rwr ln_Dw o_Jo)))) rfl hl.1 rfl (Nat.le_of_ble_eq_true rfl) dX3_goTo_1 ⟨Nat.zero_le _, Nat.zero_le _⟩ (fun H locs hP hD hS => ?_)
    have hP : va_P D vwCl (wDw K hDw sDw ++ wJo K hJo (hDw 99) hJk gJo5 o1.1 ++ wJk K hJk o1.2 ++ wRo K hRo sRo) H := hP
    have hD : va_D A (wDw K hDw sDw ++ wJo K hJo (hDw 99) hJk gJo5 o1.1 ++ wJk K hJk o1.2 ++ wRo K hRo sRo) := hD
    refine lv_aload_n hx hb dX3_goTo_4 rfl (lv_at hl 0 rfl) ?_
    refine va_get (D := D) (ci := 3) (v := .ref (hJo 0)) (C := RX3) (T := TX3) (N := 7) hx hb hts iX3 hown hK hP (1 + 0) (rwl (rwl (rwr ln_Dw o_Jo))) rfl 0 (by decide) (htl _ (mB5 _ (List.mem_of_getElem? (i := 10) rfl))) (fun _ h9 => h9) rfl dX3_goTo_5 ?_
    refine lv_iconst (v := (1 : Int32)) hx hb dX3_goTo_8 (by decide) ?_
    refine lv_dup2_11 hx hb dX3_goTo_9 rfl rfl ?_
    obtain ⟨g2, hf⟩ := gd_s hf
    refine va_iald hx hb hK hP (1 + 1) 0 (f := o1.1.2.2.1 0) (rwl (rwl (rwr ln_Dw a_Jo_0))) rfl (vpb_in g2) dX3_goTo_10 ?_
    refine lv_topi (fun v3 ev3 => ?_)
    have hf := lz_s hf v3 ev3
    refine lv_aload_n hx hb dX3_goTo_11 rfl (lv_at hl 1 rfl) ?_
    refine lv_aload_n hx hb dX3_goTo_12 rfl (lv_at hl 0 rfl) ?_
    refine va_get (D := D) (ci := 3) (v := .ref (hJo 0)) (C := RX3) (T := TX3) (N := 7) hx hb hts iX3 hown hK hP (1 + 0) (rwl (rwl (rwr ln_Dw o_Jo))) rfl 0 (by decide) (htl _ (mB5 _ (List.mem_of_getElem? (i := 10) rfl))) (fun _ h9 => h9) rfl dX3_goTo_13 ?_
    refine lv_iconst (v := (0 : Int32)) hx hb dX3_goTo_16 (by decide) ?_
    obtain ⟨g4, hf⟩ := gd_s hf
    refine va_iald hx hb hK hP (1 + 1) 0 (f := o1.1.2.2.1 0) (rwl (rwl (rwr ln_Dw a_Jo_0))) rfl (vpb_in g4) dX3_goTo_17 ?_
    refine lv_topi (fun v5 ev5 => ?_)
    have hf := lz_s hf v5 ev5
    refine lv_iload_n hx hb dX3_goTo_18 rfl (lv_at hl 2 rfl) ?_
    obtain ⟨o6, go6, hf⟩ := bd_s hf
    refine ro_Vi (As := [.int v5, .int p2]) (rest := [.int v3, .int (1 : Int32), .ref (hJo 0)]) ⟨hx, hb, hml, hown, hts⟩ (c_X9_pintsOf l D K F hRo sRo v5 p2 o6 go6) (cwV 2 hts (gcV_X9_pintsOf (mB63 _ (List.mem_of_getElem? (i := 13) rfl))) rfl rfl rfl hdV_X9_pintsOf ⟨Nat.le_of_ble_eq_true rfl, Nat.le_of_ble_eq_true rfl⟩) hK hP hS (va_PL (cs := [wDw K hDw sDw, wJo K hJo (hDw 99) hJk gJo5 o1.1, wJk K hJk o1.2, wRo K hRo sRo]) (cc := [wRo K hRo sRo]) hP (fl4 _ _ _ _) [3] rfl (fl1 _)) (va_recv hK hP (ci := 8) (q0 := (((1 + 4) + 12) + 0)) rfl (rwr (lnA (lnA ln_Dw ln_Jo) ln_Jk) o_Ro)) rfl hl.1 rfl (Nat.le_of_ble_eq_true rfl) dX3_goTo_19 ⟨Nat.zero_le _, Nat.zero_le _⟩ (fun H locs hP hS => ?_)
    refine lv_isub hx hb dX3_goTo_22 ?_
    obtain ⟨g7, hf⟩ := gd_s hf
    refine va_iast hx hb hK hP hD hS (1 + 1) 0 (f := o1.1.2.2.1 0) (rwl (rwl (rwr ln_Dw a_Jo_0))) rfl (vpb_in g7) dX3_goTo_23 (fun H locs hP hD hS => ?_)
    have hP := cvP (stl (stl (str ln_Dw sa_Jo_0) (rlt (rwr ln_Dw a_Jo_0))) (rlt (rwl (rwr ln_Dw a_Jo_0)))) hP
    have hD := cvD (stl (stl (str ln_Dw sa_Jo_0) (rlt (rwr ln_Dw a_Jo_0))) (rlt (rwl (rwr ln_Dw a_Jo_0)))) hD
    obtain ⟨s8, es8⟩ : ∃ z, z = sA o1.1 0 ((1 : Int32).toNatClampNeg) (v3 - o6) := ⟨_, rfl⟩
    have hP : va_P D vwCl (wDw K hDw sDw ++ wJo K hJo (hDw 99) hJk gJo5 s8 ++ wJk K hJk o1.2 ++ wRo K hRo sRo) H := by rw [es8]; exact hP
    have hD : va_D A (wDw K hDw sDw ++ wJo K hJo (hDw 99) hJk gJo5 s8 ++ wJk K hJk o1.2 ++ wRo K hRo sRo) := by rw [es8]; exact hD
    have hf := lz_s hf s8 es8
    refine lv_aload_n hx hb dX3_goTo_24 rfl (lv_at hl 0 rfl) ?_
    refine va_get (D := D) (ci := 3) (v := .ref (hJo 0)) (C := RX3) (T := TX3) (N := 7) hx hb hts iX3 hown hK hP (1 + 0) (rwl (rwl (rwr ln_Dw o_Jo))) rfl 0 (by decide) (htl _ (mB5 _ (List.mem_of_getElem? (i := 10) rfl))) (fun _ h9 => h9) rfl dX3_goTo_25 ?_
    refine lv_iconst (v := (3 : Int32)) hx hb dX3_goTo_28 (by decide) ?_
    refine lv_dup2_11 hx hb dX3_goTo_29 rfl rfl ?_
    obtain ⟨g9, hf⟩ := gd_s hf
    refine va_iald hx hb hK hP (1 + 1) 0 (f := s8.2.2.1 0) (rwl (rwl (rwr ln_Dw a_Jo_0))) rfl (vpb_in g9) dX3_goTo_30 ?_
    refine lv_topi (fun v10 ev10 => ?_)
    have hf := lz_s hf v10 ev10
    refine lv_aload_n hx hb dX3_goTo_31 rfl (lv_at hl 1 rfl) ?_
    refine lv_aload_n hx hb dX3_goTo_32 rfl (lv_at hl 0 rfl) ?_
    refine va_get (D := D) (ci := 3) (v := .ref (hJo 0)) (C := RX3) (T := TX3) (N := 7) hx hb hts iX3 hown hK hP (1 + 0) (rwl (rwl (rwr ln_Dw o_Jo))) rfl 0 (by decide) (htl _ (mB5 _ (List.mem_of_getElem? (i := 10) rfl))) (fun _ h9 => h9) rfl dX3_goTo_33 ?_
    refine lv_iconst (v := (0 : Int32)) hx hb dX3_goTo_36 (by decide) ?_
    obtain ⟨g11, hf⟩ := gd_s hf
    refine va_iald hx hb hK hP (1 + 1) 0 (f := s8.2.2.1 0) (rwl (rwl (rwr ln_Dw a_Jo_0))) rfl (vpb_in g11) dX3_goTo_37 ?_
    refine lv_topi (fun v12 ev12 => ?_)
    have hf := lz_s hf v12 ev12
    refine lv_iload_n hx hb dX3_goTo_38 rfl (lv_at hl 2 rfl) ?_
    obtain ⟨o13, go13, hf⟩ := bd_s hf
    refine ro_Vi (As := [.int v12, .int p2]) (rest := [.int v10, .int (3 : Int32), .ref (hJo 0)]) ⟨hx, hb, hml, hown, hts⟩ (c_X9_minutesOf l D K F hRo sRo v12 p2 o13 go13) (cwV 2 hts (gcV_X9_minutesOf (mB63 _ (List.mem_of_getElem? (i := 18) rfl))) rfl rfl rfl hdV_X9_minutesOf ⟨Nat.le_of_ble_eq_true rfl, Nat.le_of_ble_eq_true rfl⟩) hK hP hS (va_PL (cs := [wDw K hDw sDw, wJo K hJo (hDw 99) hJk gJo5 s8, wJk K hJk o1.2, wRo K hRo sRo]) (cc := [wRo K hRo sRo]) hP (fl4 _ _ _ _) [3] rfl (fl1 _)) (va_recv hK hP (ci := 8) (q0 := (((1 + 4) + 12) + 0)) rfl (rwr (lnA (lnA ln_Dw ln_Jo) ln_Jk) o_Ro)) rfl hl.1 rfl (Nat.le_of_ble_eq_true rfl) dX3_goTo_39 ⟨Nat.zero_le _, Nat.zero_le _⟩ (fun H locs hP hS => ?_)
    refine lv_iadd hx hb dX3_goTo_42 ?_
    obtain ⟨g14, hf⟩ := gd_s hf
    refine va_iast hx hb hK hP hD hS (1 + 1) 0 (f := s8.2.2.1 0) (rwl (rwl (rwr ln_Dw a_Jo_0))) rfl (vpb_in g14) dX3_goTo_43 (fun H locs hP hD hS => ?_)
    have hP := cvP (stl (stl (str ln_Dw sa_Jo_0) (rlt (rwr ln_Dw a_Jo_0))) (rlt (rwl (rwr ln_Dw a_Jo_0)))) hP
    have hD := cvD (stl (stl (str ln_Dw sa_Jo_0) (rlt (rwr ln_Dw a_Jo_0))) (rlt (rwl (rwr ln_Dw a_Jo_0)))) hD
    obtain ⟨s15, es15⟩ : ∃ z, z = sA s8 0 ((3 : Int32).toNatClampNeg) (v10 + o13) := ⟨_, rfl⟩
    have hP : va_P D vwCl (wDw K hDw sDw ++ wJo K hJo (hDw 99) hJk gJo5 s15 ++ wJk K hJk o1.2 ++ wRo K hRo sRo) H := by rw [es15]; exact hP
    have hD : va_D A (wDw K hDw sDw ++ wJo K hJo (hDw 99) hJk gJo5 s15 ++ wJk K hJk o1.2 ++ wRo K hRo sRo) := by rw [es15]; exact hD
    have hf := lz_s hf s15 es15
    refine lv_aload_n hx hb dX3_goTo_44 rfl (lv_at hl 0 rfl) ?_
    refine va_get (D := D) (ci := 3) (v := .ref (hJo 0)) (C := RX3) (T := TX3) (N := 7) hx hb hts iX3 hown hK hP (1 + 0) (rwl (rwl (rwr ln_Dw o_Jo))) rfl 0 (by decide) (htl _ (mB5 _ (List.mem_of_getElem? (i := 10) rfl))) (fun _ h9 => h9) rfl dX3_goTo_45 ?_
    refine lv_iconst (v := (0 : Int32)) hx hb dX3_goTo_48 (by decide) ?_
    refine lv_iload_n hx hb dX3_goTo_49 rfl (lv_at hl 2 rfl) ?_
    obtain ⟨g16, hf⟩ := gd_s hf
    refine va_iast hx hb hK hP hD hS (1 + 1) 0 (f := s15.2.2.1 0) (rwl (rwl (rwr ln_Dw a_Jo_0))) rfl (vpb_in g16) dX3_goTo_50 (fun H locs hP hD hS => ?_)
    have hP := cvP (stl (stl (str ln_Dw sa_Jo_0) (rlt (rwr ln_Dw a_Jo_0))) (rlt (rwl (rwr ln_Dw a_Jo_0)))) hP
    have hD := cvD (stl (stl (str ln_Dw sa_Jo_0) (rlt (rwr ln_Dw a_Jo_0))) (rlt (rwl (rwr ln_Dw a_Jo_0)))) hD
    obtain ⟨s17, es17⟩ : ∃ z, z = sA s15 0 ((0 : Int32).toNatClampNeg) p2 := ⟨_, rfl⟩
    have hP : va_P D vwCl (wDw K hDw sDw ++ wJo K hJo (hDw 99) hJk gJo5 s17 ++ wJk K hJk o1.2 ++ wRo K hRo sRo) H := by rw [es17]; exact hP
    have hD : va_D A (wDw K hDw sDw ++ wJo K hJo (hDw 99) hJk gJo5 s17 ++ wJk K hJk o1.2 ++ wRo K hRo sRo) := by rw [es17]; exact hD
    have hf := lz_s hf s17 es17
    refine lv_aload_n hx hb dX3_goTo_51 rfl (lv_at hl 0 rfl) ?_
    refine lv_aload_n hx hb dX3_goTo_52 rfl (lv_at hl 1 rfl) ?_
    obtain ⟨o18, go18, hf⟩ := bd_s hf
    refine rk_Vv (wn := wDw K hDw o18.1 ++ wJo K hJo (hDw 99) hJk gJo5 o18.2 ++ wJk K hJk o1.2 ++ wRo K hRo sRo) [wDw K hDw sDw, wJo K hJo (hDw 99) hJk gJo5 s17, wJk K hJk o1.2, wRo K hRo sRo] [wDw K hDw sDw, wJo K hJo (hDw 99) hJk gJo5 s17, wRo K hRo sRo] [wDw K hDw o18.1, wJo K hJo (hDw 99) hJk gJo5 o18.2, wRo K hRo sRo] [wDw K hDw o18.1, wJo K hJo (hDw 99) hJk gJo5 o18.2, wJk K hJk o1.2, wRo K hRo sRo] (As := [.ref (hRo 99)]) (rest := []) ⟨hx, hb, hml, hown, hts⟩ (c_X3_seePump l D K F hDw hJo hJk gJo5 hRo H.size sDw s17 sRo o18 go18) (cwV 1 hts (gcV_X3_seePump (mB16 _ (List.mem_of_getElem? (i := 20) rfl))) rfl rfl rfl hdV_X3_seePump ⟨Nat.le_of_ble_eq_true rfl, Nat.le_of_ble_eq_true rfl⟩) hK hP hD hS hA [0, 1, 3] (fl4 _ _ _ _) rfl (by decide) (fl3 _ _ _) (fl3 _ _ _) rfl rfl (fl4 _ _ _ _) (va_recv hK hP (ci := 3) (q0 := (1 + 0)) rfl (rwl (rwl (rwr ln_Dw o_Jo)))) rfl hl.1 rfl (Nat.le_of_ble_eq_true rfl) dX3_goTo_53 ⟨Nat.zero_le _, Nat.zero_le _⟩ (fun H locs hP hD hS => ?_)
    have hP : va_P D vwCl (wDw K hDw o18.1 ++ wJo K hJo (hDw 99) hJk gJo5 o18.2 ++ wJk K hJk o1.2 ++ wRo K hRo sRo) H := hP
    have hD : va_D A (wDw K hDw o18.1 ++ wJo K hJo (hDw 99) hJk gJo5 o18.2 ++ wJk K hJk o1.2 ++ wRo K hRo sRo) := hD
    have e9 := Option.some.inj hf
    rw [hQ]
    exact W.vret hx hb hr (fun t ht hW => ⟨⟨(o18.1, o18.2, o1.2), rfl, e9, ⟨by rw [ht]; exact hP, va_K.moved hW.alike hK, hD⟩⟩, hS.F ht⟩) hS.2.2 dX3_goTo_56
  rw [hHe] at hgo
  exact hgo

def wz_X3_stay : List Cond := .code yX3_stay cX3_stay 2 none :: wsL_law
abbrev r_X3_stay : Room := { frames := 3, cells := 0, slots := 0, locals := 65 }
set_option maxHeartbeats 4000000 in
set_option maxRecDepth 100000 in
theorem c_X3_stay (l : Launch) (D : va_G) (K : Nat → ClassId) (F : Nat) (hDw : Nat → Nat) (hJo : Nat → Nat) (gJo5 : Nat → Nat) (hJk : Nat → Nat) (hRo : Nat → Nat) (sz : Nat) (sDw : MS) (sJo : MS) (sJk : MS) (sRo : MS) (res : MS × MS × MS) (hf : f_X3_stay F sRo sDw sJo sJk = some res) : Met l yX3_stay wz_X3_stay r_X3_stay (va_Pc [.ref (hJo 99), .ref (hRo 99)] (PW D K (wDw K hDw sDw ++ wJo K hJo (hDw 99) hJk gJo5 sJo ++ wJk K hJk sJk ++ wRo K hRo sRo) sz)) (va_Qv (fun u => u = res) (fun u t => BW D K (va_A (wDw K hDw sDw ++ wJo K hJo (hDw 99) hJk gJo5 sJo ++ wJk K hJk sJk ++ wRo K hRo sRo) sz) (wDw K hDw u.1 ++ wJo K hJo (hDw 99) hJk gJo5 u.2.1 ++ wJk K hJk u.2.2 ++ wRo K hRo sRo) t) (va_A (wDw K hDw sDw ++ wJo K hJo (hDw 99) hJk gJo5 sJo ++ wJk K hJk sJk ++ wRo K hRo sRo) sz)) 0 0 (va_A (wDw K hDw sDw ++ wJo K hJo (hDw 99) hJk gJo5 sJo ++ wJk K hJk sJk ++ wRo K hRo sRo) sz) := by
  refine Met.ofW (cc := cX3_stay) (maxL := 2) (ret := none) (by decide) rfl ?_
  intro p e s m args below meth c s₁ B hml hv
  obtain ⟨hargs, hsz, hP, hK, hD0⟩ := hv
  have hx := B.exec
  have hb := B.bytes
  have hr := B.returns
  have hts := atoms_spec (ws := wz_X3_stay) B.pre
  have htl : ∀ w ∈ wsL_law, w.before args s = true := fun w h => hts w (List.mem_cons_of_mem _ h)
  have hown : s.vm.findClass RX3 = some m.cls := findClass_of_methodNamed B.named
  have hlocks := B.notSynchronized
  subst hsz
  have hD := hD0.self (sz := s.heap.size)
  generalize hAe : va_A (wDw K hDw sDw ++ wJo K hJo (hDw 99) hJk gJo5 sJo ++ wJk K hJk sJk ++ wRo K hRo sRo) s.heap.size = A at hD ⊢
  have hA : ∀ q : Nat, s.heap.size ≤ q → A q := fun q h => by rw [← hAe]; exact Or.inr h
  have hS : va_S A s.heap s.heap [] := va_S.rf
  have iX3 : ∀ w ∈ wsX30, w ∈ wz_X3_stay := fun w h => List.mem_cons_of_mem _ (inlX3 w h)
  suffices hgo : ∀ Q : State → Prop, Q = MQ below (va_Qv (fun u => u = res) (fun u t => BW D K A (wDw K hDw u.1 ++ wJo K hJo (hDw 99) hJk gJo5 u.2.1 ++ wJk K hJk u.2.2 ++ wRo K hRo sRo) t) A) args s 0 0 A → W p l e (headSpec wz_X3_stay r_X3_stay).room s m args below meth c s.heap [] 0 0 Q (entryFrame m args 2) from hgo _ rfl
  intro Q hQ
  have hen : entryFrame m args 2 = entryFrame m (([.ref (hJo 99), .ref (hRo 99)] : List Value).toArray) 2 := by rw [hargs]
  have hl := lv_entry ([.ref (hJo 99), .ref (hRo 99)]) (n := 2) (Nat.le_of_ble_eq_true rfl)
  rw [hen, lg_entry_eq]
  generalize (lg_sl ([.ref (hJo 99), .ref (hRo 99)]) ++ List.replicate (2 - (lg_sl ([.ref (hJo 99), .ref (hRo 99)])).length) Slot.unset).toArray = ls at hl ⊢
  have hl : lv_has ls 2 [(0, .ref (hJo 99)), (1, .ref (hRo 99))] := hl
  unfold f_X3_stay at hf
  obtain ⟨H, hHe⟩ : ∃ z, z = s.heap := ⟨_, rfl⟩
  obtain ⟨locs, hLe⟩ : ∃ z : List Loc, z = [] := ⟨_, rfl⟩
  rw [← hLe]
  have hS : va_S A s.heap H locs := by rw [hHe, hLe]; exact hS
  have hP : va_P D vwCl (wDw K hDw sDw ++ wJo K hJo (hDw 99) hJk gJo5 sJo ++ wJk K hJk sJk ++ wRo K hRo sRo) H := by rw [hHe]; exact hP
  have hgo : W p l e (headSpec wz_X3_stay r_X3_stay).room s m args below meth c H locs 0 0 Q (F0 m 0 ls []) := by
    refine lv_aload_n hx hb dX3_stay_0 rfl (lv_at hl 0 rfl) ?_
    obtain ⟨o1, go1, hf⟩ := bd_s hf
    refine rk_Vv (wn := wDw K hDw sDw ++ wJo K hJo (hDw 99) hJk gJo5 o1.1 ++ wJk K hJk o1.2 ++ wRo K hRo sRo) [wDw K hDw sDw, wJo K hJo (hDw 99) hJk gJo5 sJo, wJk K hJk sJk, wRo K hRo sRo] [wJo K hJo (hDw 99) hJk gJo5 sJo, wJk K hJk sJk] [wJo K hJo (hDw 99) hJk gJo5 o1.1, wJk K hJk o1.2] [wDw K hDw sDw, wJo K hJo (hDw 99) hJk gJo5 o1.1, wJk K hJk o1.2, wRo K hRo sRo] (As := []) (rest := []) ⟨hx, hb, hml, hown, hts⟩ (c_X3_keep l D K F hJo (hDw 99) gJo5 hJk H.size sJo sJk o1 go1) (cwV 0 hts (gcV_X3_keep (mB62 _ (List.mem_of_getElem? (i := 13) rfl))) rfl rfl rfl hdV_X3_keep ⟨Nat.le_of_ble_eq_true rfl, Nat.le_of_ble_eq_true rfl⟩) hK hP hD hS hA [1, 2] (fl4 _ _ _ _) rfl (by decide) (fl2 _ _) (fl2 _ _) rfl rfl (fl4 _ _ _ _) (va_recv hK hP (ci := 3) (q0 := (1 + 0)) rfl (rwl (rwl (rwr ln_Dw o_Jo)))) rfl hl.1 rfl (Nat.le_of_ble_eq_true rfl) dX3_stay_1 ⟨Nat.zero_le _, Nat.zero_le _⟩ (fun H locs hP hD hS => ?_)
    have hP : va_P D vwCl (wDw K hDw sDw ++ wJo K hJo (hDw 99) hJk gJo5 o1.1 ++ wJk K hJk o1.2 ++ wRo K hRo sRo) H := hP
    have hD : va_D A (wDw K hDw sDw ++ wJo K hJo (hDw 99) hJk gJo5 o1.1 ++ wJk K hJk o1.2 ++ wRo K hRo sRo) := hD
    refine lv_aload_n hx hb dX3_stay_4 rfl (lv_at hl 0 rfl) ?_
    refine va_get (D := D) (ci := 3) (v := .ref (hJo 0)) (C := RX3) (T := TX3) (N := 7) hx hb hts iX3 hown hK hP (1 + 0) (rwl (rwl (rwr ln_Dw o_Jo))) rfl 0 (by decide) (htl _ (mB5 _ (List.mem_of_getElem? (i := 10) rfl))) (fun _ h9 => h9) rfl dX3_stay_5 ?_
    refine lv_iconst (v := (3 : Int32)) hx hb dX3_stay_8 (by decide) ?_
    refine lv_dup2_11 hx hb dX3_stay_9 rfl rfl ?_
    obtain ⟨g2, hf⟩ := gd_s hf
    refine va_iald hx hb hK hP (1 + 1) 0 (f := o1.1.2.2.1 0) (rwl (rwl (rwr ln_Dw a_Jo_0))) rfl (vpb_in g2) dX3_stay_10 ?_
    refine lv_topi (fun v3 ev3 => ?_)
    have hf := lz_s hf v3 ev3
    refine lv_bipush (v := (10 : Int32)) hx hb dX3_stay_11 (by decide) ?_
    refine lv_iadd hx hb dX3_stay_13 ?_
    obtain ⟨g4, hf⟩ := gd_s hf
    refine va_iast hx hb hK hP hD hS (1 + 1) 0 (f := o1.1.2.2.1 0) (rwl (rwl (rwr ln_Dw a_Jo_0))) rfl (vpb_in g4) dX3_stay_14 (fun H locs hP hD hS => ?_)
    have hP := cvP (stl (stl (str ln_Dw sa_Jo_0) (rlt (rwr ln_Dw a_Jo_0))) (rlt (rwl (rwr ln_Dw a_Jo_0)))) hP
    have hD := cvD (stl (stl (str ln_Dw sa_Jo_0) (rlt (rwr ln_Dw a_Jo_0))) (rlt (rwl (rwr ln_Dw a_Jo_0)))) hD
    obtain ⟨s5, es5⟩ : ∃ z, z = sA o1.1 0 ((3 : Int32).toNatClampNeg) (v3 + (10 : Int32)) := ⟨_, rfl⟩
    have hP : va_P D vwCl (wDw K hDw sDw ++ wJo K hJo (hDw 99) hJk gJo5 s5 ++ wJk K hJk o1.2 ++ wRo K hRo sRo) H := by rw [es5]; exact hP
    have hD : va_D A (wDw K hDw sDw ++ wJo K hJo (hDw 99) hJk gJo5 s5 ++ wJk K hJk o1.2 ++ wRo K hRo sRo) := by rw [es5]; exact hD
    have hf := lz_s hf s5 es5
    refine lv_aload_n hx hb dX3_stay_15 rfl (lv_at hl 0 rfl) ?_
    refine lv_aload_n hx hb dX3_stay_16 rfl (lv_at hl 1 rfl) ?_
    obtain ⟨o6, go6, hf⟩ := bd_s hf
    refine rk_Vv (wn := wDw K hDw o6.1 ++ wJo K hJo (hDw 99) hJk gJo5 o6.2 ++ wJk K hJk o1.2 ++ wRo K hRo sRo) [wDw K hDw sDw, wJo K hJo (hDw 99) hJk gJo5 s5, wJk K hJk o1.2, wRo K hRo sRo] [wDw K hDw sDw, wJo K hJo (hDw 99) hJk gJo5 s5, wRo K hRo sRo] [wDw K hDw o6.1, wJo K hJo (hDw 99) hJk gJo5 o6.2, wRo K hRo sRo] [wDw K hDw o6.1, wJo K hJo (hDw 99) hJk gJo5 o6.2, wJk K hJk o1.2, wRo K hRo sRo] (As := [.ref (hRo 99)]) (rest := []) ⟨hx, hb, hml, hown, hts⟩ (c_X3_seePump l D K F hDw hJo hJk gJo5 hRo H.size sDw s5 sRo o6 go6) (cwV 1 hts (gcV_X3_seePump (mB16 _ (List.mem_of_getElem? (i := 20) rfl))) rfl rfl rfl hdV_X3_seePump ⟨Nat.le_of_ble_eq_true rfl, Nat.le_of_ble_eq_true rfl⟩) hK hP hD hS hA [0, 1, 3] (fl4 _ _ _ _) rfl (by decide) (fl3 _ _ _) (fl3 _ _ _) rfl rfl (fl4 _ _ _ _) (va_recv hK hP (ci := 3) (q0 := (1 + 0)) rfl (rwl (rwl (rwr ln_Dw o_Jo)))) rfl hl.1 rfl (Nat.le_of_ble_eq_true rfl) dX3_stay_17 ⟨Nat.zero_le _, Nat.zero_le _⟩ (fun H locs hP hD hS => ?_)
    have hP : va_P D vwCl (wDw K hDw o6.1 ++ wJo K hJo (hDw 99) hJk gJo5 o6.2 ++ wJk K hJk o1.2 ++ wRo K hRo sRo) H := hP
    have hD : va_D A (wDw K hDw o6.1 ++ wJo K hJo (hDw 99) hJk gJo5 o6.2 ++ wJk K hJk o1.2 ++ wRo K hRo sRo) := hD
    have e9 := Option.some.inj hf
    rw [hQ]
    exact W.vret hx hb hr (fun t ht hW => ⟨⟨(o6.1, o6.2, o1.2), rfl, e9, ⟨by rw [ht]; exact hP, va_K.moved hW.alike hK, hD⟩⟩, hS.F ht⟩) hS.2.2 dX3_stay_20
  rw [hHe] at hgo
  exact hgo

def wz_X3_takeBack : List Cond := .code yX3_takeBack cX3_takeBack 1 none :: wsL_law
abbrev r_X3_takeBack : Room := { frames := 1, cells := 0, slots := 0, locals := 26 }
set_option maxHeartbeats 4000000 in
set_option maxRecDepth 100000 in
theorem c_X3_takeBack (l : Launch) (D : va_G) (K : Nat → ClassId) (F : Nat) (hJo : Nat → Nat) (rJo6 : Nat) (gJo5 : Nat → Nat) (hJk : Nat → Nat) (sz : Nat) (sJo : MS) (sJk : MS) (res : MS) (hf : f_X3_takeBack F sJk sJo = some res) : Met l yX3_takeBack wz_X3_takeBack r_X3_takeBack (va_Pc [.ref (hJo 99)] (PW D K (wJo K hJo rJo6 hJk gJo5 sJo ++ wJk K hJk sJk) sz)) (va_Qv (fun u => u = res) (fun u t => BW D K (va_A (wJo K hJo rJo6 hJk gJo5 sJo ++ wJk K hJk sJk) sz) (wJo K hJo rJo6 hJk gJo5 u ++ wJk K hJk sJk) t) (va_A (wJo K hJo rJo6 hJk gJo5 sJo ++ wJk K hJk sJk) sz)) 0 0 (va_A (wJo K hJo rJo6 hJk gJo5 sJo ++ wJk K hJk sJk) sz) := by
  refine Met.ofW (cc := cX3_takeBack) (maxL := 1) (ret := none) (by decide) rfl ?_
  intro p e s m args below meth c s₁ B hml hv
  obtain ⟨hargs, hsz, hP, hK, hD0⟩ := hv
  have hx := B.exec
  have hb := B.bytes
  have hr := B.returns
  have hts := atoms_spec (ws := wz_X3_takeBack) B.pre
  have htl : ∀ w ∈ wsL_law, w.before args s = true := fun w h => hts w (List.mem_cons_of_mem _ h)
  have hown : s.vm.findClass RX3 = some m.cls := findClass_of_methodNamed B.named
  have hlocks := B.notSynchronized
  subst hsz
  have hD := hD0.self (sz := s.heap.size)
  generalize hAe : va_A (wJo K hJo rJo6 hJk gJo5 sJo ++ wJk K hJk sJk) s.heap.size = A at hD ⊢
  have hA : ∀ q : Nat, s.heap.size ≤ q → A q := fun q h => by rw [← hAe]; exact Or.inr h
  have hS : va_S A s.heap s.heap [] := va_S.rf
  have iX3 : ∀ w ∈ wsX30, w ∈ wz_X3_takeBack := fun w h => List.mem_cons_of_mem _ (inlX3 w h)
  suffices hgo : ∀ Q : State → Prop, Q = MQ below (va_Qv (fun u => u = res) (fun u t => BW D K A (wJo K hJo rJo6 hJk gJo5 u ++ wJk K hJk sJk) t) A) args s 0 0 A → W p l e (headSpec wz_X3_takeBack r_X3_takeBack).room s m args below meth c s.heap [] 0 0 Q (entryFrame m args 1) from hgo _ rfl
  intro Q hQ
  have hen : entryFrame m args 1 = entryFrame m (([.ref (hJo 99)] : List Value).toArray) 1 := by rw [hargs]
  have hl := lv_entry ([.ref (hJo 99)]) (n := 1) (Nat.le_of_ble_eq_true rfl)
  rw [hen, lg_entry_eq]
  generalize (lg_sl ([.ref (hJo 99)]) ++ List.replicate (1 - (lg_sl ([.ref (hJo 99)])).length) Slot.unset).toArray = ls at hl ⊢
  have hl : lv_has ls 1 [(0, .ref (hJo 99))] := hl
  unfold f_X3_takeBack at hf
  obtain ⟨H, hHe⟩ : ∃ z, z = s.heap := ⟨_, rfl⟩
  obtain ⟨locs, hLe⟩ : ∃ z : List Loc, z = [] := ⟨_, rfl⟩
  rw [← hLe]
  have hS : va_S A s.heap H locs := by rw [hHe, hLe]; exact hS
  have hP : va_P D vwCl (wJo K hJo rJo6 hJk gJo5 sJo ++ wJk K hJk sJk) H := by rw [hHe]; exact hP
  have hgo : W p l e (headSpec wz_X3_takeBack r_X3_takeBack).room s m args below meth c H locs 0 0 Q (F0 m 0 ls []) := by
    refine lv_aload_n hx hb dX3_takeBack_0 rfl (lv_at hl 0 rfl) ?_
    refine va_get (D := D) (ci := 3) (v := .ref (hJo 4)) (C := RX3) (T := TX3) (N := 7) hx hb hts iX3 hown hK hP 0 (rwl o_Jo) rfl 4 (by decide) (htl _ (mB5 _ (List.mem_of_getElem? (i := 12) rfl))) (fun _ h9 => h9) rfl dX3_takeBack_1 ?_
    refine lv_aload_n hx hb dX3_takeBack_4 rfl (lv_at hl 0 rfl) ?_
    refine va_get (D := D) (ci := 3) (v := .int (sJo.1 3)) (C := RX3) (T := TX3) (N := 7) hx hb hts iX3 hown hK hP 0 (rwl o_Jo) rfl 3 (by decide) (htl _ (mB62 _ (List.mem_of_getElem? (i := 17) rfl))) (fun _ h9 => h9) rfl dX3_takeBack_5 ?_
    obtain ⟨g1, hf⟩ := gd_s hf
    refine va_ald2 (r := hJk ((sJo.1 3).toNatClampNeg)) hx hb hK hP 2 3 (rwl a_Jo_4) rfl (vpb_in g1) (if_pos (vpb_lt g1)) dX3_takeBack_8 ?_
    refine lv_iconst (v := (0 : Int32)) hx hb dX3_takeBack_9 (by decide) ?_
    refine lv_aload_n hx hb dX3_takeBack_10 rfl (lv_at hl 0 rfl) ?_
    refine va_get (D := D) (ci := 3) (v := .ref (hJo 0)) (C := RX3) (T := TX3) (N := 7) hx hb hts iX3 hown hK hP 0 (rwl o_Jo) rfl 0 (by decide) (htl _ (mB5 _ (List.mem_of_getElem? (i := 10) rfl))) (fun _ h9 => h9) rfl dX3_takeBack_11 ?_
    refine lv_iconst (v := (0 : Int32)) hx hb dX3_takeBack_14 (by decide) ?_
    refine lv_bipush (v := (7 : Int32)) hx hb dX3_takeBack_15 (by decide) ?_
    refine va_copyi hx hb (hml.trans hl.1.symm) hown (htl _ (mB62 _ (List.mem_of_getElem? (i := 18) rfl))) (htl _ (mB56 _ (List.mem_of_getElem? (i := 3) rfl))) (htl _ (mB56 _ (List.mem_of_getElem? (i := 4) rfl))) (htl _ (mB56 _ (List.mem_of_getElem? (i := 5) rfl))) hK hP hD hS (4 + (sJo.1 3).toNatClampNeg) 1 0 0 (f := sJk.2.2.1 ((sJo.1 3).toNatClampNeg)) (g := sJo.2.2.1 0) (rwr (n := 4) rfl (wJk_r ((sJo.1 3).toNatClampNeg) (vpb_lt g1))) (rwl a_Jo_0) rfl rfl rfl (by decide) (by decide) (by decide) (by decide) (by decide) (fun _ _ => rfl) (Nat.le_of_ble_eq_true rfl) (Nat.le_of_ble_eq_true rfl) dX3_takeBack_17 (fun H locs hP hD hS => ?_)
    have hP := cvP (stl sa_Jo_0 (rlt a_Jo_0)) hP
    have hD := cvD (stl sa_Jo_0 (rlt a_Jo_0)) hD
    obtain ⟨s2, es2⟩ : ∃ z, z = wA sJo 0 (va_cpy (sJk.2.2.1 ((sJo.1 3).toNatClampNeg)) (sJo.2.2.1 0) (0 : Int32).toNatClampNeg (0 : Int32).toNatClampNeg (7 : Int32).toNatClampNeg) := ⟨_, rfl⟩
    have hP : va_P D vwCl (wJo K hJo rJo6 hJk gJo5 s2 ++ wJk K hJk sJk) H := by rw [es2]; exact hP
    have hD : va_D A (wJo K hJo rJo6 hJk gJo5 s2 ++ wJk K hJk sJk) := by rw [es2]; exact hD
    have hf := lz_s hf s2 es2
    refine lv_aload_n hx hb dX3_takeBack_20 rfl (lv_at hl 0 rfl) ?_
    refine lv_aload_n hx hb dX3_takeBack_21 rfl (lv_at hl 0 rfl) ?_
    refine va_get (D := D) (ci := 3) (v := .int (s2.1 3)) (C := RX3) (T := TX3) (N := 7) hx hb hts iX3 hown hK hP 0 (rwl o_Jo) rfl 3 (by decide) (htl _ (mB62 _ (List.mem_of_getElem? (i := 17) rfl))) (fun _ h9 => h9) rfl dX3_takeBack_22 ?_
    refine lv_bipush (v := (12 : Int32)) hx hb dX3_takeBack_25 (by decide) ?_
    refine lv_iadd hx hb dX3_takeBack_27 ?_
    refine lv_iconst (v := (1 : Int32)) hx hb dX3_takeBack_28 (by decide) ?_
    refine lv_isub hx hb dX3_takeBack_29 ?_
    refine lv_bipush (v := (12 : Int32)) hx hb dX3_takeBack_30 (by decide) ?_
    refine lv_irem hx hb dX3_takeBack_32 (by decide) ?_
    refine lv_topi (fun v3 ev3 => ?_)
    have hf := lz_s hf v3 ev3
    refine va_put (D := D) (ci := 3) (v := .int v3) (ty := .int) (C := RX3) (T := TX3) (N := 7) hx hb hts iX3 tyX3 tyX3_ok nmX3 hown hK hP hD hS 0 (rwl o_Jo) rfl 3 (by decide) (htl _ (mB62 _ (List.mem_of_getElem? (i := 17) rfl))) (fun _ h9 => h9) rfl (by decide +kernel) rfl rfl (Nat.le_of_ble_eq_true rfl) dX3_takeBack_33 (fun H locs hP hD hS => ?_)
    have hP := cvP (stl si_Jo_3 (rlt o_Jo)) hP
    have hD := cvD (stl si_Jo_3 (rlt o_Jo)) hD
    obtain ⟨s4, es4⟩ : ∃ z, z = sI s2 3 v3 := ⟨_, rfl⟩
    have hP : va_P D vwCl (wJo K hJo rJo6 hJk gJo5 s4 ++ wJk K hJk sJk) H := by rw [es4]; exact hP
    have hD : va_D A (wJo K hJo rJo6 hJk gJo5 s4 ++ wJk K hJk sJk) := by rw [es4]; exact hD
    have hf := lz_s hf s4 es4
    refine lv_aload_n hx hb dX3_takeBack_36 rfl (lv_at hl 0 rfl) ?_
    refine lv_dup hx hb dX3_takeBack_37 rfl ?_
    refine va_get (D := D) (ci := 3) (v := .int (s4.1 1)) (C := RX3) (T := TX3) (N := 7) hx hb hts iX3 hown hK hP 0 (rwl o_Jo) rfl 1 (by decide) (htl _ (mB16 _ (List.mem_of_getElem? (i := 12) rfl))) (fun _ h9 => h9) rfl dX3_takeBack_38 ?_
    refine lv_iconst (v := (1 : Int32)) hx hb dX3_takeBack_41 (by decide) ?_
    refine lv_isub hx hb dX3_takeBack_42 ?_
    refine lv_topi (fun v5 ev5 => ?_)
    have hf := lz_s hf v5 ev5
    refine va_put (D := D) (ci := 3) (v := .int v5) (ty := .int) (C := RX3) (T := TX3) (N := 7) hx hb hts iX3 tyX3 tyX3_ok nmX3 hown hK hP hD hS 0 (rwl o_Jo) rfl 1 (by decide) (htl _ (mB16 _ (List.mem_of_getElem? (i := 12) rfl))) (fun _ h9 => h9) rfl (by decide +kernel) rfl rfl (Nat.le_of_ble_eq_true rfl) dX3_takeBack_43 (fun H locs hP hD hS => ?_)
    have hP := cvP (stl si_Jo_1 (rlt o_Jo)) hP
    have hD := cvD (stl si_Jo_1 (rlt o_Jo)) hD
    obtain ⟨s6, es6⟩ : ∃ z, z = sI s4 1 v5 := ⟨_, rfl⟩
    have hP : va_P D vwCl (wJo K hJo rJo6 hJk gJo5 s6 ++ wJk K hJk sJk) H := by rw [es6]; exact hP
    have hD : va_D A (wJo K hJo rJo6 hJk gJo5 s6 ++ wJk K hJk sJk) := by rw [es6]; exact hD
    have hf := lz_s hf s6 es6
    have e9 := Option.some.inj hf
    rw [hQ]
    exact W.vret hx hb hr (fun t ht hW => ⟨⟨s6, rfl, e9, ⟨by rw [ht]; exact hP, va_K.moved hW.alike hK, hD⟩⟩, hS.F ht⟩) hS.2.2 dX3_takeBack_46
  rw [hHe] at hgo
  exact hgo

def wz_X3_picture : List Cond := .code yX3_picture cX3_picture 1 (some .int) :: wsL_law
abbrev r_X3_picture : Room := { frames := 1, cells := 0, slots := 0, locals := 26 }
set_option maxHeartbeats 4000000 in
set_option maxRecDepth 100000 in
theorem c_X3_picture (l : Launch) (D : va_G) (K : Nat → ClassId) (F : Nat) (hJo : Nat → Nat) (rJo6 : Nat) (gJo4 : Nat → Nat) (hJi : Nat → Nat) (sz : Nat) (sJo : MS) (sJi : MS) (res : Int32 × MS × MS) (hf : f_X3_picture F sJo sJi = some res) : Met l yX3_picture wz_X3_picture r_X3_picture (va_Pc [.ref (hJo 99)] (PW D K (wJo K hJo rJo6 gJo4 hJi sJo ++ wJi K hJi sJi) sz)) (va_Qi (fun r u => r = res.1 ∧ u = res.2) (fun u t => BW D K (va_A (wJo K hJo rJo6 gJo4 hJi sJo ++ wJi K hJi sJi) sz) (wJo K hJo rJo6 gJo4 hJi u.1 ++ wJi K hJi u.2) t) (va_A (wJo K hJo rJo6 gJo4 hJi sJo ++ wJi K hJi sJi) sz)) 0 0 (va_A (wJo K hJo rJo6 gJo4 hJi sJo ++ wJi K hJi sJi) sz) := by
  refine Met.ofW (cc := cX3_picture) (maxL := 1) (ret := (some .int)) (by decide) rfl ?_
  intro p e s m args below meth c s₁ B hml hv
  obtain ⟨hargs, hsz, hP, hK, hD0⟩ := hv
  have hx := B.exec
  have hb := B.bytes
  have hr := B.returns
  have hts := atoms_spec (ws := wz_X3_picture) B.pre
  have htl : ∀ w ∈ wsL_law, w.before args s = true := fun w h => hts w (List.mem_cons_of_mem _ h)
  have hown : s.vm.findClass RX3 = some m.cls := findClass_of_methodNamed B.named
  have hlocks := B.notSynchronized
  subst hsz
  have hD := hD0.self (sz := s.heap.size)
  generalize hAe : va_A (wJo K hJo rJo6 gJo4 hJi sJo ++ wJi K hJi sJi) s.heap.size = A at hD ⊢
  have hA : ∀ q : Nat, s.heap.size ≤ q → A q := fun q h => by rw [← hAe]; exact Or.inr h
  have hS : va_S A s.heap s.heap [] := va_S.rf
  have iX3 : ∀ w ∈ wsX30, w ∈ wz_X3_picture := fun w h => List.mem_cons_of_mem _ (inlX3 w h)
  suffices hgo : ∀ Q : State → Prop, Q = MQ below (va_Qi (fun r u => r = res.1 ∧ u = res.2) (fun u t => BW D K A (wJo K hJo rJo6 gJo4 hJi u.1 ++ wJi K hJi u.2) t) A) args s 0 0 A → W p l e (headSpec wz_X3_picture r_X3_picture).room s m args below meth c s.heap [] 0 0 Q (entryFrame m args 1) from hgo _ rfl
  intro Q hQ
  have hen : entryFrame m args 1 = entryFrame m (([.ref (hJo 99)] : List Value).toArray) 1 := by rw [hargs]
  have hl := lv_entry ([.ref (hJo 99)]) (n := 1) (Nat.le_of_ble_eq_true rfl)
  rw [hen, lg_entry_eq]
  generalize (lg_sl ([.ref (hJo 99)]) ++ List.replicate (1 - (lg_sl ([.ref (hJo 99)])).length) Slot.unset).toArray = ls at hl ⊢
  have hl : lv_has ls 1 [(0, .ref (hJo 99))] := hl
  unfold f_X3_picture at hf
  obtain ⟨H, hHe⟩ : ∃ z, z = s.heap := ⟨_, rfl⟩
  obtain ⟨locs, hLe⟩ : ∃ z : List Loc, z = [] := ⟨_, rfl⟩
  rw [← hLe]
  have hS : va_S A s.heap H locs := by rw [hHe, hLe]; exact hS
  have hP : va_P D vwCl (wJo K hJo rJo6 gJo4 hJi sJo ++ wJi K hJi sJi) H := by rw [hHe]; exact hP
  have hgo : W p l e (headSpec wz_X3_picture r_X3_picture).room s m args below meth c H locs 0 0 Q (F0 m 0 ls []) := by
    refine lv_aload_n hx hb dX3_picture_0 rfl (lv_at hl 0 rfl) ?_
    refine va_get (D := D) (ci := 3) (v := .ref (hJo 0)) (C := RX3) (T := TX3) (N := 7) hx hb hts iX3 hown hK hP 0 (rwl o_Jo) rfl 0 (by decide) (htl _ (mB5 _ (List.mem_of_getElem? (i := 10) rfl))) (fun _ h9 => h9) rfl dX3_picture_1 ?_
    refine lv_iconst (v := (0 : Int32)) hx hb dX3_picture_4 (by decide) ?_
    refine lv_aload_n hx hb dX3_picture_5 rfl (lv_at hl 0 rfl) ?_
    refine va_get (D := D) (ci := 3) (v := .ref (hJo 5)) (C := RX3) (T := TX3) (N := 7) hx hb hts iX3 hown hK hP 0 (rwl o_Jo) rfl 5 (by decide) (htl _ (mB5 _ (List.mem_of_getElem? (i := 13) rfl))) (fun _ h9 => h9) rfl dX3_picture_6 ?_
    refine lv_aload_n hx hb dX3_picture_9 rfl (lv_at hl 0 rfl) ?_
    refine va_get (D := D) (ci := 3) (v := .int (sJo.1 2)) (C := RX3) (T := TX3) (N := 7) hx hb hts iX3 hown hK hP 0 (rwl o_Jo) rfl 2 (by decide) (htl _ (mB16 _ (List.mem_of_getElem? (i := 13) rfl))) (fun _ h9 => h9) rfl dX3_picture_10 ?_
    obtain ⟨g1, hf⟩ := gd_s hf
    refine va_ald2 (r := hJi ((sJo.1 2).toNatClampNeg)) hx hb hK hP 3 3 (rwl a_Jo_5) rfl (vpb_in g1) (if_pos (vpb_lt g1)) dX3_picture_13 ?_
    refine lv_iconst (v := (0 : Int32)) hx hb dX3_picture_14 (by decide) ?_
    refine lv_bipush (v := (7 : Int32)) hx hb dX3_picture_15 (by decide) ?_
    refine va_copyi hx hb (hml.trans hl.1.symm) hown (htl _ (mB62 _ (List.mem_of_getElem? (i := 18) rfl))) (htl _ (mB56 _ (List.mem_of_getElem? (i := 3) rfl))) (htl _ (mB56 _ (List.mem_of_getElem? (i := 4) rfl))) (htl _ (mB56 _ (List.mem_of_getElem? (i := 5) rfl))) hK hP hD hS 1 (4 + (sJo.1 2).toNatClampNeg) 0 0 (f := sJo.2.2.1 0) (g := sJi.2.2.1 ((sJo.1 2).toNatClampNeg)) (rwl a_Jo_0) (rwr (n := 4) rfl (wJi_r ((sJo.1 2).toNatClampNeg) (vpb_lt g1))) rfl rfl rfl (by decide) (by decide) (by decide) (by decide) (by decide) (fun _ _ => rfl) (Nat.le_of_ble_eq_true rfl) (Nat.le_of_ble_eq_true rfl) dX3_picture_17 (fun H locs hP hD hS => ?_)
    rw [str (n := 4) rfl (wJi_w ((sJo.1 2).toNatClampNeg) (vpb_lt g1))] at hP hD
    obtain ⟨s2, es2⟩ : ∃ z, z = wA sJi ((sJo.1 2).toNatClampNeg) (va_cpy (sJo.2.2.1 0) (sJi.2.2.1 ((sJo.1 2).toNatClampNeg)) (0 : Int32).toNatClampNeg (0 : Int32).toNatClampNeg (7 : Int32).toNatClampNeg) := ⟨_, rfl⟩
    have hP : va_P D vwCl (wJo K hJo rJo6 gJo4 hJi sJo ++ wJi K hJi s2) H := by rw [es2]; exact hP
    have hD : va_D A (wJo K hJo rJo6 gJo4 hJi sJo ++ wJi K hJi s2) := by rw [es2]; exact hD
    have hf := lz_s hf s2 es2
    refine lv_aload_n hx hb dX3_picture_20 rfl (lv_at hl 0 rfl) ?_
    refine lv_dup hx hb dX3_picture_21 rfl ?_
    refine va_get (D := D) (ci := 3) (v := .int (sJo.1 2)) (C := RX3) (T := TX3) (N := 7) hx hb hts iX3 hown hK hP 0 (rwl o_Jo) rfl 2 (by decide) (htl _ (mB16 _ (List.mem_of_getElem? (i := 13) rfl))) (fun _ h9 => h9) rfl dX3_picture_22 ?_
    refine lv_iconst (v := (1 : Int32)) hx hb dX3_picture_25 (by decide) ?_
    refine lv_iadd hx hb dX3_picture_26 ?_
    refine lv_topi (fun v3 ev3 => ?_)
    have hf := lz_s hf v3 ev3
    refine va_put (D := D) (ci := 3) (v := .int v3) (ty := .int) (C := RX3) (T := TX3) (N := 7) hx hb hts iX3 tyX3 tyX3_ok nmX3 hown hK hP hD hS 0 (rwl o_Jo) rfl 2 (by decide) (htl _ (mB16 _ (List.mem_of_getElem? (i := 13) rfl))) (fun _ h9 => h9) rfl (by decide +kernel) rfl rfl (Nat.le_of_ble_eq_true rfl) dX3_picture_27 (fun H locs hP hD hS => ?_)
    have hP := cvP (stl si_Jo_2 (rlt o_Jo)) hP
    have hD := cvD (stl si_Jo_2 (rlt o_Jo)) hD
    obtain ⟨s4, es4⟩ : ∃ z, z = sI sJo 2 v3 := ⟨_, rfl⟩
    have hP : va_P D vwCl (wJo K hJo rJo6 gJo4 hJi s4 ++ wJi K hJi s2) H := by rw [es4]; exact hP
    have hD : va_D A (wJo K hJo rJo6 gJo4 hJi s4 ++ wJi K hJi s2) := by rw [es4]; exact hD
    have hf := lz_s hf s4 es4
    refine lv_aload_n hx hb dX3_picture_30 rfl (lv_at hl 0 rfl) ?_
    refine va_get (D := D) (ci := 3) (v := .int (s4.1 2)) (C := RX3) (T := TX3) (N := 7) hx hb hts iX3 hown hK hP 0 (rwl o_Jo) rfl 2 (by decide) (htl _ (mB16 _ (List.mem_of_getElem? (i := 13) rfl))) (fun _ h9 => h9) rfl dX3_picture_31 ?_
    refine lv_iconst (v := (1 : Int32)) hx hb dX3_picture_34 (by decide) ?_
    refine lv_isub hx hb dX3_picture_35 ?_
    have e9 := Option.some.inj hf
    rw [hQ]
    exact W.iret (v := ((s4.1 2) - (1 : Int32))) hx hb hr (fun t ht hW => ⟨⟨((s4.1 2) - (1 : Int32)), (s4, s2), rfl, ⟨pr1 e9, pr2 e9⟩, ⟨by rw [ht]; exact hP, va_K.moved hW.alike hK, hD⟩⟩, hS.F ht⟩) hS.2.2 dX3_picture_36
  rw [hHe] at hgo
  exact hgo

def wz_X3_returnTo : List Cond := .code yX3_returnTo cX3_returnTo 2 none :: wsL_law
abbrev r_X3_returnTo : Room := { frames := 1, cells := 0, slots := 0, locals := 26 }
set_option maxHeartbeats 4000000 in
set_option maxRecDepth 100000 in
theorem c_X3_returnTo (l : Launch) (D : va_G) (K : Nat → ClassId) (F : Nat) (hJo : Nat → Nat) (rJo6 : Nat) (gJo4 : Nat → Nat) (hJi : Nat → Nat) (sz : Nat) (sJo : MS) (sJi : MS) (p1 : Int32) (res : MS) (hf : f_X3_returnTo F sJi p1 sJo = some res) : Met l yX3_returnTo wz_X3_returnTo r_X3_returnTo (va_Pc [.ref (hJo 99), .int p1] (PW D K (wJo K hJo rJo6 gJo4 hJi sJo ++ wJi K hJi sJi) sz)) (va_Qv (fun u => u = res) (fun u t => BW D K (va_A (wJo K hJo rJo6 gJo4 hJi sJo ++ wJi K hJi sJi) sz) (wJo K hJo rJo6 gJo4 hJi u ++ wJi K hJi sJi) t) (va_A (wJo K hJo rJo6 gJo4 hJi sJo ++ wJi K hJi sJi) sz)) 0 0 (va_A (wJo K hJo rJo6 gJo4 hJi sJo ++ wJi K hJi sJi) sz) := by
  refine Met.ofW (cc := cX3_returnTo) (maxL := 2) (ret := none) (by decide) rfl ?_
  intro p e s m args below meth c s₁ B hml hv
  obtain ⟨hargs, hsz, hP, hK, hD0⟩ := hv
  have hx := B.exec
  have hb := B.bytes
  have hr := B.returns
  have hts := atoms_spec (ws := wz_X3_returnTo) B.pre
  have htl : ∀ w ∈ wsL_law, w.before args s = true := fun w h => hts w (List.mem_cons_of_mem _ h)
  have hown : s.vm.findClass RX3 = some m.cls := findClass_of_methodNamed B.named
  have hlocks := B.notSynchronized
  subst hsz
  have hD := hD0.self (sz := s.heap.size)
  generalize hAe : va_A (wJo K hJo rJo6 gJo4 hJi sJo ++ wJi K hJi sJi) s.heap.size = A at hD ⊢
  have hA : ∀ q : Nat, s.heap.size ≤ q → A q := fun q h => by rw [← hAe]; exact Or.inr h
  have hS : va_S A s.heap s.heap [] := va_S.rf
  have iX3 : ∀ w ∈ wsX30, w ∈ wz_X3_returnTo := fun w h => List.mem_cons_of_mem _ (inlX3 w h)
  suffices hgo : ∀ Q : State → Prop, Q = MQ below (va_Qv (fun u => u = res) (fun u t => BW D K A (wJo K hJo rJo6 gJo4 hJi u ++ wJi K hJi sJi) t) A) args s 0 0 A → W p l e (headSpec wz_X3_returnTo r_X3_returnTo).room s m args below meth c s.heap [] 0 0 Q (entryFrame m args 2) from hgo _ rfl
  intro Q hQ
  have hen : entryFrame m args 2 = entryFrame m (([.ref (hJo 99), .int p1] : List Value).toArray) 2 := by rw [hargs]
  have hl := lv_entry ([.ref (hJo 99), .int p1]) (n := 2) (Nat.le_of_ble_eq_true rfl)
  rw [hen, lg_entry_eq]
  generalize (lg_sl ([.ref (hJo 99), .int p1]) ++ List.replicate (2 - (lg_sl ([.ref (hJo 99), .int p1])).length) Slot.unset).toArray = ls at hl ⊢
  have hl : lv_has ls 2 [(0, .ref (hJo 99)), (1, .int p1)] := hl
  unfold f_X3_returnTo at hf
  obtain ⟨H, hHe⟩ : ∃ z, z = s.heap := ⟨_, rfl⟩
  obtain ⟨locs, hLe⟩ : ∃ z : List Loc, z = [] := ⟨_, rfl⟩
  rw [← hLe]
  have hS : va_S A s.heap H locs := by rw [hHe, hLe]; exact hS
  have hP : va_P D vwCl (wJo K hJo rJo6 gJo4 hJi sJo ++ wJi K hJi sJi) H := by rw [hHe]; exact hP
  have hgo : W p l e (headSpec wz_X3_returnTo r_X3_returnTo).room s m args below meth c H locs 0 0 Q (F0 m 0 ls []) := by
    refine lv_aload_n hx hb dX3_returnTo_0 rfl (lv_at hl 0 rfl) ?_
    refine va_get (D := D) (ci := 3) (v := .ref (hJo 5)) (C := RX3) (T := TX3) (N := 7) hx hb hts iX3 hown hK hP 0 (rwl o_Jo) rfl 5 (by decide) (htl _ (mB5 _ (List.mem_of_getElem? (i := 13) rfl))) (fun _ h9 => h9) rfl dX3_returnTo_1 ?_
    refine lv_iload_n hx hb dX3_returnTo_4 rfl (lv_at hl 1 rfl) ?_
    obtain ⟨g1, hf⟩ := gd_s hf
    refine va_ald2 (r := hJi p1.toNatClampNeg) hx hb hK hP 3 3 (rwl a_Jo_5) rfl (vpb_in g1) (if_pos (vpb_lt g1)) dX3_returnTo_5 ?_
    refine lv_iconst (v := (0 : Int32)) hx hb dX3_returnTo_6 (by decide) ?_
    refine lv_aload_n hx hb dX3_returnTo_7 rfl (lv_at hl 0 rfl) ?_
    refine va_get (D := D) (ci := 3) (v := .ref (hJo 0)) (C := RX3) (T := TX3) (N := 7) hx hb hts iX3 hown hK hP 0 (rwl o_Jo) rfl 0 (by decide) (htl _ (mB5 _ (List.mem_of_getElem? (i := 10) rfl))) (fun _ h9 => h9) rfl dX3_returnTo_8 ?_
    refine lv_iconst (v := (0 : Int32)) hx hb dX3_returnTo_11 (by decide) ?_
    refine lv_bipush (v := (7 : Int32)) hx hb dX3_returnTo_12 (by decide) ?_
    refine va_copyi hx hb (hml.trans hl.1.symm) hown (htl _ (mB62 _ (List.mem_of_getElem? (i := 18) rfl))) (htl _ (mB56 _ (List.mem_of_getElem? (i := 3) rfl))) (htl _ (mB56 _ (List.mem_of_getElem? (i := 4) rfl))) (htl _ (mB56 _ (List.mem_of_getElem? (i := 5) rfl))) hK hP hD hS (4 + p1.toNatClampNeg) 1 0 0 (f := sJi.2.2.1 p1.toNatClampNeg) (g := sJo.2.2.1 0) (rwr (n := 4) rfl (wJi_r p1.toNatClampNeg (vpb_lt g1))) (rwl a_Jo_0) rfl rfl rfl (by decide) (by decide) (by decide) (by decide) (by decide) (fun _ _ => rfl) (Nat.le_of_ble_eq_true rfl) (Nat.le_of_ble_eq_true rfl) dX3_returnTo_14 (fun H locs hP hD hS => ?_)
    have hP := cvP (stl sa_Jo_0 (rlt a_Jo_0)) hP
    have hD := cvD (stl sa_Jo_0 (rlt a_Jo_0)) hD
    obtain ⟨s2, es2⟩ : ∃ z, z = wA sJo 0 (va_cpy (sJi.2.2.1 p1.toNatClampNeg) (sJo.2.2.1 0) (0 : Int32).toNatClampNeg (0 : Int32).toNatClampNeg (7 : Int32).toNatClampNeg) := ⟨_, rfl⟩
    have hP : va_P D vwCl (wJo K hJo rJo6 gJo4 hJi s2 ++ wJi K hJi sJi) H := by rw [es2]; exact hP
    have hD : va_D A (wJo K hJo rJo6 gJo4 hJi s2 ++ wJi K hJi sJi) := by rw [es2]; exact hD
    have hf := lz_s hf s2 es2
    refine lv_aload_n hx hb dX3_returnTo_17 rfl (lv_at hl 0 rfl) ?_
    refine lv_iconst (v := (0 : Int32)) hx hb dX3_returnTo_18 (by decide) ?_
    refine va_put (D := D) (ci := 3) (v := .int (0 : Int32)) (ty := .int) (C := RX3) (T := TX3) (N := 7) hx hb hts iX3 tyX3 tyX3_ok nmX3 hown hK hP hD hS 0 (rwl o_Jo) rfl 1 (by decide) (htl _ (mB16 _ (List.mem_of_getElem? (i := 12) rfl))) (fun _ h9 => h9) rfl (by decide +kernel) rfl rfl (Nat.le_of_ble_eq_true rfl) dX3_returnTo_19 (fun H locs hP hD hS => ?_)
    have hP := cvP (stl si_Jo_1 (rlt o_Jo)) hP
    have hD := cvD (stl si_Jo_1 (rlt o_Jo)) hD
    obtain ⟨s3, es3⟩ : ∃ z, z = sI s2 1 (0 : Int32) := ⟨_, rfl⟩
    have hP : va_P D vwCl (wJo K hJo rJo6 gJo4 hJi s3 ++ wJi K hJi sJi) H := by rw [es3]; exact hP
    have hD : va_D A (wJo K hJo rJo6 gJo4 hJi s3 ++ wJi K hJi sJi) := by rw [es3]; exact hD
    have hf := lz_s hf s3 es3
    have e9 := Option.some.inj hf
    rw [hQ]
    exact W.vret hx hb hr (fun t ht hW => ⟨⟨s3, rfl, e9, ⟨by rw [ht]; exact hP, va_K.moved hW.alike hK, hD⟩⟩, hS.F ht⟩) hS.2.2 dX3_returnTo_22
  rw [hHe] at hgo
  exact hgo

theorem gcV_X3_canGo {T0 : Cond} {own : String} {i : Nat} (h : Cond.methodLink own i yX3_canGo ∈ wsL_law) : GoodIn (T0 :: wsL_law) (wsV own i RX3 yX3_canGo wz_X3_canGo) := gV h (mB63 _ (List.mem_of_getElem? (i := 9) rfl)) (mB63 _ (List.mem_of_getElem? (i := 10) rfl)) (mB2 _ (List.mem_of_getElem? (i := 18) rfl)) (mB63 _ (List.mem_of_getElem? (i := 11) rfl))
theorem hdV_X3_canGo : yX3_canGo.cls = RX3 ∧ yX3_canGo.cls ≠ "java/lang/invoke/MethodHandle" ∧ yX3_canGo.cls ≠ "java/lang/invoke/VarHandle" ∧ (parseMethodDescriptor yX3_canGo.desc).map (fun d => d.parameters.length) = some 2 := by decide +kernel
def wz_X3_openPlace : List Cond := .code yX3_openPlace cX3_openPlace 5 (some .int) :: wsL_law
abbrev r_X3_openPlace : Room := { frames := 3, cells := 0, slots := 0, locals := 66 }
set_option maxHeartbeats 4000000 in
set_option maxRecDepth 100000 in
theorem c_X3_openPlace (l : Launch) (D : va_G) (K : Nat → ClassId) (F : Nat) (hJo : Nat → Nat) (rJo6 : Nat) (gJo4 : Nat → Nat) (gJo5 : Nat → Nat) (hRo : Nat → Nat) (sJo : MS) (sRo : MS) (p2 : Int32) (res : Int32) (hf : f_X3_openPlace F sJo sRo p2 = some res) : Met l yX3_openPlace wz_X3_openPlace r_X3_openPlace (va_Pc [.ref (hJo 99), .ref (hRo 99), .int p2] (PR D K (wJo K hJo rJo6 gJo4 gJo5 sJo ++ wRo K hRo sRo))) (va_Qi (fun r (_ : Unit) => r = res) BN nOne) 0 0 nOne := by
  refine Met.ofW (cc := cX3_openPlace) (maxL := 5) (ret := (some .int)) (by decide) rfl ?_
  intro p e s m args below meth c s₁ B hml hv
  obtain ⟨hargs, hP, hK⟩ := hv
  have hx := B.exec
  have hb := B.bytes
  have hr := B.returns
  have hts := atoms_spec (ws := wz_X3_openPlace) B.pre
  have htl : ∀ w ∈ wsL_law, w.before args s = true := fun w h => hts w (List.mem_cons_of_mem _ h)
  have hown : s.vm.findClass RX3 = some m.cls := findClass_of_methodNamed B.named
  have hlocks := B.notSynchronized
  have hS : va_S nOne s.heap s.heap [] := va_S.rf
  have iX9 : ∀ w ∈ wsX90, w ∈ wz_X3_openPlace := fun w h => List.mem_cons_of_mem _ (inlX9 w h)
  suffices hgo : ∀ Q : State → Prop, Q = MQ below (va_Qi (fun r (_ : Unit) => r = res) BN nOne) args s 0 0 nOne → W p l e (headSpec wz_X3_openPlace r_X3_openPlace).room s m args below meth c s.heap [] 0 0 Q (entryFrame m args 5) from hgo _ rfl
  intro Q hQ
  have w35 : ∀ (k5 : Int32 → Int32 → Option Int32), (∀ (x3 : Int32), ∀ (x4 : Int32), ∀ (H : Heap) (locs : List Loc) (ls : Array Slot), k5 x3 x4 = some res → va_P D vwCl (wJo K hJo rJo6 gJo4 gJo5 sJo ++ wRo K hRo sRo) H → va_S nOne s.heap H locs → lv_has ls 5 [(0, .ref (hJo 99)), (1, .ref (hRo 99)), (2, .int p2), (3, .int x3), (4, .int x4)] → W p l e (headSpec wz_X3_openPlace r_X3_openPlace).room s m args below meth c H locs 0 0 Q (F0 m 5 ls [])) → ∀ (x3 : Int32), ∀ (x4 : Int32), ∀ (H : Heap) (locs : List Loc) (ls : Array Slot), f_X3_openPlace_35 F sJo sRo p2 k5 x3 x4 = some res → va_P D vwCl (wJo K hJo rJo6 gJo4 gJo5 sJo ++ wRo K hRo sRo) H → va_S nOne s.heap H locs → lv_has ls 5 [(0, .ref (hJo 99)), (1, .ref (hRo 99)), (2, .int p2), (3, .int x3), (4, .int x4)] → W p l e (headSpec wz_X3_openPlace r_X3_openPlace).room s m args below meth c H locs 0 0 Q (F0 m 35 ls []) := by
    intro k5 hk5 x3 x4 H locs ls hf hP hS hl
    unfold f_X3_openPlace_35 at hf
    obtain ⟨v6, ev6⟩ : ∃ z : Int32, z = x4 + (1 : Int32) := ⟨_, rfl⟩
    have hf := lz_s hf v6 ev6
    refine lv_iinc (v := v6) (lv' := [(4, .int v6), (0, .ref (hJo 99)), (1, .ref (hRo 99)), (2, .int p2), (3, .int x3)]) hx hb dX3_openPlace_35 hl (k := 4) rfl (by rw [ev6]; rfl) (by decide) rfl (fun ls hl => ?_)
    refine lv_goto (tgt := 5) hx hb dX3_openPlace_38 (by decide) ?_
    exact hk5 x3 v6 H locs ls hf hP hS (lv_sub hl [1, 2, 3, 4, 0] rfl)
  have w5 : ∀ (n : Nat), ∀ (x3 : Int32), ∀ (x4 : Int32), ∀ (H : Heap) (locs : List Loc) (ls : Array Slot), f_X3_openPlace_5 F sJo sRo p2 n x3 x4 = some res → va_P D vwCl (wJo K hJo rJo6 gJo4 gJo5 sJo ++ wRo K hRo sRo) H → va_S nOne s.heap H locs → lv_has ls 5 [(0, .ref (hJo 99)), (1, .ref (hRo 99)), (2, .int p2), (3, .int x3), (4, .int x4)] → W p l e (headSpec wz_X3_openPlace r_X3_openPlace).room s m args below meth c H locs 0 0 Q (F0 m 5 ls []) := by
    intro n
    induction n with
    | zero =>
      intro x3 x4 H locs ls hf
      exact absurd (show none = some res from hf) (fun h => nomatch h)
    | succ n ih =>
      intro x3 x4 H locs ls hf hP hS hl
      rw [f_X3_openPlace_5] at hf
      refine lv_iload hx hb dX3_openPlace_5 (lv_at hl 4 rfl) ?_
      refine lv_aload_n hx hb dX3_openPlace_7 rfl (lv_at hl 1 rfl) ?_
      refine va_get (D := D) (ci := 8) (v := .int (sRo.1 5)) (C := RX9) (T := TX9) (N := 19) hx hb hts iX9 hown hK hP (4 + 0) (rwr ln_Jo o_Ro) rfl 5 (by decide) (htl _ (mB67 _ (List.mem_of_getElem? (i := 0) rfl))) (fun _ h9 => h9) rfl dX3_openPlace_8 ?_
      refine lv_icmp_ge (tgt := 41) hx hb dX3_openPlace_11 (by decide) (fun c1 => ?_) (fun c1 => ?_)
      · have hf := it_t hf c1
        refine lv_iconst (v := (-1 : Int32)) hx hb dX3_openPlace_41 (by decide) ?_
        have e9 := Option.some.inj hf
        rw [hQ]
        exact W.iret (v := (-1 : Int32)) hx hb hr (fun t ht hW => ⟨⟨(-1 : Int32), (), rfl, e9, trivial⟩, hS.F ht⟩) hS.2.2 dX3_openPlace_42
      · have hf := it_f hf c1
        refine lv_aload_n hx hb dX3_openPlace_14 rfl (lv_at hl 0 rfl) ?_
        refine lv_aload_n hx hb dX3_openPlace_15 rfl (lv_at hl 1 rfl) ?_
        refine lv_iload hx hb dX3_openPlace_16 (lv_at hl 4 rfl) ?_
        obtain ⟨o2, go2, hf⟩ := bd_s hf
        refine ro_Vi (As := [.ref (hRo 99), .int x4]) (rest := []) ⟨hx, hb, hml, hown, hts⟩ (c_X3_canGo l D K F hJo rJo6 gJo4 gJo5 hRo sJo sRo x4 o2 go2) (cwV 2 hts (gcV_X3_canGo (mB67 _ (List.mem_of_getElem? (i := 1) rfl))) rfl rfl rfl hdV_X3_canGo ⟨Nat.le_of_ble_eq_true rfl, Nat.le_of_ble_eq_true rfl⟩) hK hP hS hP (va_recv hK hP (ci := 3) (q0 := 0) rfl (rwl o_Jo)) rfl hl.1 rfl (Nat.le_of_ble_eq_true rfl) dX3_openPlace_18 ⟨Nat.zero_le _, Nat.zero_le _⟩ (fun H locs hP hS => ?_)
        refine lv_if_eq (tgt := 35) hx hb dX3_openPlace_21 (by decide) (fun c3 => ?_) (fun c3 => ?_)
        · have hf := it_t hf c3
          exact w35 (f_X3_openPlace_5 F sJo sRo p2 n) ih x3 x4 H locs ls hf hP hS (lv_sub hl [0, 1, 2, 3, 4] rfl)
        · have hf := it_f hf c3
          refine lv_iload_n hx hb dX3_openPlace_24 rfl (lv_at hl 3 rfl) ?_
          refine lv_iload_n hx hb dX3_openPlace_25 rfl (lv_at hl 2 rfl) ?_
          refine lv_icmp_ne (tgt := 32) hx hb dX3_openPlace_26 (by decide) (fun c4 => ?_) (fun c4 => ?_)
          · have hf := it_f hf c4
            obtain ⟨v5, ev5⟩ : ∃ z : Int32, z = x3 + (1 : Int32) := ⟨_, rfl⟩
            have hf := lz_s hf v5 ev5
            refine lv_iinc (v := v5) (lv' := [(3, .int v5), (0, .ref (hJo 99)), (1, .ref (hRo 99)), (2, .int p2), (4, .int x4)]) hx hb dX3_openPlace_32 hl (k := 3) rfl (by rw [ev5]; rfl) (by decide) rfl (fun ls hl => ?_)
            exact w35 (f_X3_openPlace_5 F sJo sRo p2 n) ih v5 x4 H locs ls hf hP hS (lv_sub hl [1, 2, 3, 0, 4] rfl)
          · have hf := it_t hf c4
            refine lv_iload hx hb dX3_openPlace_29 (lv_at hl 4 rfl) ?_
            have e9 := Option.some.inj hf
            rw [hQ]
            exact W.iret (v := x4) hx hb hr (fun t ht hW => ⟨⟨x4, (), rfl, e9, trivial⟩, hS.F ht⟩) hS.2.2 dX3_openPlace_31
  have hen : entryFrame m args 5 = entryFrame m (([.ref (hJo 99), .ref (hRo 99), .int p2] : List Value).toArray) 5 := by rw [hargs]
  have hl := lv_entry ([.ref (hJo 99), .ref (hRo 99), .int p2]) (n := 5) (Nat.le_of_ble_eq_true rfl)
  rw [hen, lg_entry_eq]
  generalize (lg_sl ([.ref (hJo 99), .ref (hRo 99), .int p2]) ++ List.replicate (5 - (lg_sl ([.ref (hJo 99), .ref (hRo 99), .int p2])).length) Slot.unset).toArray = ls at hl ⊢
  have hl : lv_has ls 5 [(0, .ref (hJo 99)), (1, .ref (hRo 99)), (2, .int p2)] := hl
  unfold f_X3_openPlace at hf
  obtain ⟨H, hHe⟩ : ∃ z, z = s.heap := ⟨_, rfl⟩
  obtain ⟨locs, hLe⟩ : ∃ z : List Loc, z = [] := ⟨_, rfl⟩
  rw [← hLe]
  have hS : va_S nOne s.heap H locs := by rw [hHe, hLe]; exact hS
  have hP : va_P D vwCl (wJo K hJo rJo6 gJo4 gJo5 sJo ++ wRo K hRo sRo) H := by rw [hHe]; exact hP
  have hgo : W p l e (headSpec wz_X3_openPlace r_X3_openPlace).room s m args below meth c H locs 0 0 Q (F0 m 0 ls []) := by
    refine lv_iconst (v := (0 : Int32)) hx hb dX3_openPlace_0 (by decide) ?_
    refine lv_istore_n (lv' := [(3, .int (0 : Int32)), (0, .ref (hJo 99)), (1, .ref (hRo 99)), (2, .int p2)]) hx hb dX3_openPlace_1 rfl hl (by decide) rfl (fun ls hl => ?_)
    refine lv_iconst (v := (0 : Int32)) hx hb dX3_openPlace_2 (by decide) ?_
    refine lv_istore (lv' := [(4, .int (0 : Int32)), (3, .int (0 : Int32)), (0, .ref (hJo 99)), (1, .ref (hRo 99)), (2, .int p2)]) hx hb dX3_openPlace_3 hl (by decide) rfl (fun ls hl => ?_)
    exact w5 F (0 : Int32) (0 : Int32) H locs ls hf hP hS (lv_sub hl [2, 3, 4, 1, 0] rfl)
  rw [hHe] at hgo
  exact hgo
