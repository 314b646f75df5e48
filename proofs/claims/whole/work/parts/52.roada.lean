theorem gcS_J7_fill_53178 {T0 : Cond} {own : String} {i : Nat} (h : Cond.methodLink own i yJ7_fill_53178 ∈ wsL_law) : GoodIn (T0 :: wsL_law) (va_wsS own i yJ7_fill_53178 wz_J7_fill_53178) := gS h (mB8 _ (List.mem_of_getElem? (i := 23) rfl)) (mB9 _ (List.mem_of_getElem? (i := 0) rfl)) (mB9 _ (List.mem_of_getElem? (i := 1) rfl))
theorem hdS_J7_fill_53178 : yJ7_fill_53178.cls ≠ "java/lang/invoke/MethodHandle" ∧ yJ7_fill_53178.cls ≠ "java/lang/invoke/VarHandle" ∧ (parseMethodDescriptor yJ7_fill_53178.desc).map (fun d => d.parameters.length) = some 2 := by decide +kernel
def wz_X9_clear : List Cond := .code yX9_clear cX9_clear 1 none :: wsL_law
abbrev r_X9_clear : Room := { frames := 1, cells := 0, slots := 0, locals := 23 }
set_option maxHeartbeats 4000000 in
set_option maxRecDepth 100000 in
theorem c_X9_clear (l : Launch) (D : va_G) (K : Nat → ClassId) (F : Nat) (hRo : Nat → Nat) (sz : Nat) (sRo : MS) (res : MS) (hf : f_X9_clear F sRo = some res) : Met l yX9_clear wz_X9_clear r_X9_clear (va_Pc [.ref (hRo 99)] (PW D K (wRo K hRo sRo) sz)) (va_Qv (fun u => u = res) (fun u t => BW D K (va_A (wRo K hRo sRo) sz) (wRo K hRo u) t) (va_A (wRo K hRo sRo) sz)) 0 0 (va_A (wRo K hRo sRo) sz) := by
  refine Met.ofW (cc := cX9_clear) (maxL := 1) (ret := none) (by decide) rfl ?_
  intro p e s m args below meth c s₁ B hml hv
  obtain ⟨hargs, hsz, hP, hK, hD0⟩ := hv
  have hx := B.exec
  have hb := B.bytes
  have hr := B.returns
  have hts := atoms_spec (ws := wz_X9_clear) B.pre
  have htl : ∀ w ∈ wsL_law, w.before args s = true := fun w h => hts w (List.mem_cons_of_mem _ h)
  have hown : s.vm.findClass RX9 = some m.cls := findClass_of_methodNamed B.named
  have hlocks := B.notSynchronized
  subst hsz
  have hD := hD0.self (sz := s.heap.size)
  generalize hAe : va_A (wRo K hRo sRo) s.heap.size = A at hD ⊢
  have hA : ∀ q : Nat, s.heap.size ≤ q → A q := fun q h => by rw [← hAe]; exact Or.inr h
  have hS : va_S A s.heap s.heap [] := va_S.rf
  have iX9 : ∀ w ∈ wsX90, w ∈ wz_X9_clear := fun w h => List.mem_cons_of_mem _ (inlX9 w h)
  suffices hgo : ∀ Q : State → Prop, Q = MQ below (va_Qv (fun u => u = res) (fun u t => BW D K A (wRo K hRo u) t) A) args s 0 0 A → W p l e (headSpec wz_X9_clear r_X9_clear).room s m args below meth c s.heap [] 0 0 Q (entryFrame m args 1) from hgo _ rfl
  intro Q hQ
  have hen : entryFrame m args 1 = entryFrame m (([.ref (hRo 99)] : List Value).toArray) 1 := by rw [hargs]
  have hl := lv_entry ([.ref (hRo 99)]) (n := 1) (Nat.le_of_ble_eq_true rfl)
  rw [hen, lg_entry_eq]
  generalize (lg_sl ([.ref (hRo 99)]) ++ List.replicate (1 - (lg_sl ([.ref (hRo 99)])).length) Slot.unset).toArray = ls at hl ⊢
  have hl : lv_has ls 1 [(0, .ref (hRo 99))] := hl
  unfold f_X9_clear at hf
  obtain ⟨H, hHe⟩ : ∃ z, z = s.heap := ⟨_, rfl⟩
  obtain ⟨locs, hLe⟩ : ∃ z : List Loc, z = [] := ⟨_, rfl⟩
  rw [← hLe]
  have hS : va_S A s.heap H locs := by rw [hHe, hLe]; exact hS
  have hP : va_P D vwCl (wRo K hRo sRo) H := by rw [hHe]; exact hP
  have hgo : W p l e (headSpec wz_X9_clear r_X9_clear).room s m args below meth c H locs 0 0 Q (F0 m 0 ls []) := by
    refine lv_aload_n hx hb dX9_clear_0 rfl (lv_at hl 0 rfl) ?_
    refine lv_iconst (v := (0 : Int32)) hx hb dX9_clear_1 (by decide) ?_
    refine va_put (D := D) (ci := 8) (v := .int (0 : Int32)) (ty := .int) (C := RX9) (T := TX9) (N := 19) hx hb hts iX9 tyX9 tyX9_ok nmX9 hown hK hP hD hS 0 o_Ro rfl 0 (by decide) (htl _ (mB8 _ (List.mem_of_getElem? (i := 12) rfl))) (fun _ h9 => h9) rfl (by decide +kernel) rfl rfl (Nat.le_of_ble_eq_true rfl) dX9_clear_2 (fun H locs hP hD hS => ?_)
    have hP := cvP si_Ro_0 hP
    have hD := cvD si_Ro_0 hD
    obtain ⟨s1, es1⟩ : ∃ z, z = sI sRo 0 (0 : Int32) := ⟨_, rfl⟩
    have hP : va_P D vwCl (wRo K hRo s1) H := by rw [es1]; exact hP
    have hD : va_D A (wRo K hRo s1) := by rw [es1]; exact hD
    have hf := lz_s hf s1 es1
    refine lv_aload_n hx hb dX9_clear_5 rfl (lv_at hl 0 rfl) ?_
    refine lv_iconst (v := (0 : Int32)) hx hb dX9_clear_6 (by decide) ?_
    refine va_put (D := D) (ci := 8) (v := .int (0 : Int32)) (ty := .int) (C := RX9) (T := TX9) (N := 19) hx hb hts iX9 tyX9 tyX9_ok nmX9 hown hK hP hD hS 0 o_Ro rfl 1 (by decide) (htl _ (mB8 _ (List.mem_of_getElem? (i := 13) rfl))) (fun _ h9 => h9) rfl (by decide +kernel) rfl rfl (Nat.le_of_ble_eq_true rfl) dX9_clear_7 (fun H locs hP hD hS => ?_)
    have hP := cvP si_Ro_1 hP
    have hD := cvD si_Ro_1 hD
    obtain ⟨s2, es2⟩ : ∃ z, z = sI s1 1 (0 : Int32) := ⟨_, rfl⟩
    have hP : va_P D vwCl (wRo K hRo s2) H := by rw [es2]; exact hP
    have hD : va_D A (wRo K hRo s2) := by rw [es2]; exact hD
    have hf := lz_s hf s2 es2
    refine lv_aload_n hx hb dX9_clear_10 rfl (lv_at hl 0 rfl) ?_
    refine lv_iconst (v := (0 : Int32)) hx hb dX9_clear_11 (by decide) ?_
    refine va_put (D := D) (ci := 8) (v := .int (0 : Int32)) (ty := .int) (C := RX9) (T := TX9) (N := 19) hx hb hts iX9 tyX9 tyX9_ok nmX9 hown hK hP hD hS 0 o_Ro rfl 2 (by decide) (htl _ (mB8 _ (List.mem_of_getElem? (i := 14) rfl))) (fun _ h9 => h9) rfl (by decide +kernel) rfl rfl (Nat.le_of_ble_eq_true rfl) dX9_clear_12 (fun H locs hP hD hS => ?_)
    have hP := cvP si_Ro_2 hP
    have hD := cvD si_Ro_2 hD
    obtain ⟨s3, es3⟩ : ∃ z, z = sI s2 2 (0 : Int32) := ⟨_, rfl⟩
    have hP : va_P D vwCl (wRo K hRo s3) H := by rw [es3]; exact hP
    have hD : va_D A (wRo K hRo s3) := by rw [es3]; exact hD
    have hf := lz_s hf s3 es3
    refine lv_aload_n hx hb dX9_clear_15 rfl (lv_at hl 0 rfl) ?_
    refine lv_iconst (v := (0 : Int32)) hx hb dX9_clear_16 (by decide) ?_
    refine va_put (D := D) (ci := 8) (v := .int (0 : Int32)) (ty := .int) (C := RX9) (T := TX9) (N := 19) hx hb hts iX9 tyX9 tyX9_ok nmX9 hown hK hP hD hS 0 o_Ro rfl 3 (by decide) (htl _ (mB8 _ (List.mem_of_getElem? (i := 15) rfl))) (fun _ h9 => h9) rfl (by decide +kernel) rfl rfl (Nat.le_of_ble_eq_true rfl) dX9_clear_17 (fun H locs hP hD hS => ?_)
    have hP := cvP si_Ro_3 hP
    have hD := cvD si_Ro_3 hD
    obtain ⟨s4, es4⟩ : ∃ z, z = sI s3 3 (0 : Int32) := ⟨_, rfl⟩
    have hP : va_P D vwCl (wRo K hRo s4) H := by rw [es4]; exact hP
    have hD : va_D A (wRo K hRo s4) := by rw [es4]; exact hD
    have hf := lz_s hf s4 es4
    refine lv_aload_n hx hb dX9_clear_20 rfl (lv_at hl 0 rfl) ?_
    refine lv_iconst (v := (0 : Int32)) hx hb dX9_clear_21 (by decide) ?_
    refine va_put (D := D) (ci := 8) (v := .int (0 : Int32)) (ty := .int) (C := RX9) (T := TX9) (N := 19) hx hb hts iX9 tyX9 tyX9_ok nmX9 hown hK hP hD hS 0 o_Ro rfl 4 (by decide) (htl _ (mB8 _ (List.mem_of_getElem? (i := 16) rfl))) (fun _ h9 => h9) rfl (by decide +kernel) rfl rfl (Nat.le_of_ble_eq_true rfl) dX9_clear_22 (fun H locs hP hD hS => ?_)
    have hP := cvP si_Ro_4 hP
    have hD := cvD si_Ro_4 hD
    obtain ⟨s5, es5⟩ : ∃ z, z = sI s4 4 (0 : Int32) := ⟨_, rfl⟩
    have hP : va_P D vwCl (wRo K hRo s5) H := by rw [es5]; exact hP
    have hD : va_D A (wRo K hRo s5) := by rw [es5]; exact hD
    have hf := lz_s hf s5 es5
    refine lv_aload_n hx hb dX9_clear_25 rfl (lv_at hl 0 rfl) ?_
    refine lv_iconst (v := (0 : Int32)) hx hb dX9_clear_26 (by decide) ?_
    refine va_put (D := D) (ci := 8) (v := .int (0 : Int32)) (ty := .int) (C := RX9) (T := TX9) (N := 19) hx hb hts iX9 tyX9 tyX9_ok nmX9 hown hK hP hD hS 0 o_Ro rfl 5 (by decide) (htl _ (mB8 _ (List.mem_of_getElem? (i := 17) rfl))) (fun _ h9 => h9) rfl (by decide +kernel) rfl rfl (Nat.le_of_ble_eq_true rfl) dX9_clear_27 (fun H locs hP hD hS => ?_)
    have hP := cvP si_Ro_5 hP
    have hD := cvD si_Ro_5 hD
    obtain ⟨s6, es6⟩ : ∃ z, z = sI s5 5 (0 : Int32) := ⟨_, rfl⟩
    have hP : va_P D vwCl (wRo K hRo s6) H := by rw [es6]; exact hP
    have hD : va_D A (wRo K hRo s6) := by rw [es6]; exact hD
    have hf := lz_s hf s6 es6
    refine lv_aload_n hx hb dX9_clear_30 rfl (lv_at hl 0 rfl) ?_
    refine lv_iconst (v := (0 : Int32)) hx hb dX9_clear_31 (by decide) ?_
    refine va_put (D := D) (ci := 8) (v := .int (0 : Int32)) (ty := .int) (C := RX9) (T := TX9) (N := 19) hx hb hts iX9 tyX9 tyX9_ok nmX9 hown hK hP hD hS 0 o_Ro rfl 6 (by decide) (htl _ (mB8 _ (List.mem_of_getElem? (i := 18) rfl))) (fun _ h9 => h9) rfl (by decide +kernel) rfl rfl (Nat.le_of_ble_eq_true rfl) dX9_clear_32 (fun H locs hP hD hS => ?_)
    have hP := cvP si_Ro_6 hP
    have hD := cvD si_Ro_6 hD
    obtain ⟨s7, es7⟩ : ∃ z, z = sI s6 6 (0 : Int32) := ⟨_, rfl⟩
    have hP : va_P D vwCl (wRo K hRo s7) H := by rw [es7]; exact hP
    have hD : va_D A (wRo K hRo s7) := by rw [es7]; exact hD
    have hf := lz_s hf s7 es7
    refine lv_aload_n hx hb dX9_clear_35 rfl (lv_at hl 0 rfl) ?_
    refine lv_iconst (v := (0 : Int32)) hx hb dX9_clear_36 (by decide) ?_
    refine va_put (D := D) (ci := 8) (v := .int (0 : Int32)) (ty := .int) (C := RX9) (T := TX9) (N := 19) hx hb hts iX9 tyX9 tyX9_ok nmX9 hown hK hP hD hS 0 o_Ro rfl 7 (by decide) (htl _ (mB8 _ (List.mem_of_getElem? (i := 19) rfl))) (fun _ h9 => h9) rfl (by decide +kernel) rfl rfl (Nat.le_of_ble_eq_true rfl) dX9_clear_37 (fun H locs hP hD hS => ?_)
    have hP := cvP si_Ro_7 hP
    have hD := cvD si_Ro_7 hD
    obtain ⟨s8, es8⟩ : ∃ z, z = sI s7 7 (0 : Int32) := ⟨_, rfl⟩
    have hP : va_P D vwCl (wRo K hRo s8) H := by rw [es8]; exact hP
    have hD : va_D A (wRo K hRo s8) := by rw [es8]; exact hD
    have hf := lz_s hf s8 es8
    refine lv_aload_n hx hb dX9_clear_40 rfl (lv_at hl 0 rfl) ?_
    refine lv_iconst (v := (0 : Int32)) hx hb dX9_clear_41 (by decide) ?_
    refine va_put (D := D) (ci := 8) (v := .int (0 : Int32)) (ty := .int) (C := RX9) (T := TX9) (N := 19) hx hb hts iX9 tyX9 tyX9_ok nmX9 hown hK hP hD hS 0 o_Ro rfl 8 (by decide) (htl _ (mB8 _ (List.mem_of_getElem? (i := 20) rfl))) (fun _ h9 => h9) rfl (by decide +kernel) rfl rfl (Nat.le_of_ble_eq_true rfl) dX9_clear_42 (fun H locs hP hD hS => ?_)
    have hP := cvP si_Ro_8 hP
    have hD := cvD si_Ro_8 hD
    obtain ⟨s9, es9⟩ : ∃ z, z = sI s8 8 (0 : Int32) := ⟨_, rfl⟩
    have hP : va_P D vwCl (wRo K hRo s9) H := by rw [es9]; exact hP
    have hD : va_D A (wRo K hRo s9) := by rw [es9]; exact hD
    have hf := lz_s hf s9 es9
    refine lv_aload_n hx hb dX9_clear_45 rfl (lv_at hl 0 rfl) ?_
    refine lv_iconst (v := (0 : Int32)) hx hb dX9_clear_46 (by decide) ?_
    refine va_put (D := D) (ci := 8) (v := .int (0 : Int32)) (ty := .int) (C := RX9) (T := TX9) (N := 19) hx hb hts iX9 tyX9 tyX9_ok nmX9 hown hK hP hD hS 0 o_Ro rfl 9 (by decide) (htl _ (mB8 _ (List.mem_of_getElem? (i := 21) rfl))) (fun _ h9 => h9) rfl (by decide +kernel) rfl rfl (Nat.le_of_ble_eq_true rfl) dX9_clear_47 (fun H locs hP hD hS => ?_)
    have hP := cvP si_Ro_9 hP
    have hD := cvD si_Ro_9 hD
    obtain ⟨s10, es10⟩ : ∃ z, z = sI s9 9 (0 : Int32) := ⟨_, rfl⟩
    have hP : va_P D vwCl (wRo K hRo s10) H := by rw [es10]; exact hP
    have hD : va_D A (wRo K hRo s10) := by rw [es10]; exact hD
    have hf := lz_s hf s10 es10
    refine lv_aload_n hx hb dX9_clear_50 rfl (lv_at hl 0 rfl) ?_
    refine va_get (D := D) (ci := 8) (v := .ref (hRo 10)) (C := RX9) (T := TX9) (N := 19) hx hb hts iX9 hown hK hP 0 o_Ro rfl 10 (by decide) (htl _ (mB3 _ (List.mem_of_getElem? (i := 4) rfl))) (fun _ h9 => h9) rfl dX9_clear_51 ?_
    refine lv_iconst (v := (0 : Int32)) hx hb dX9_clear_54 (by decide) ?_
    obtain ⟨o11, go11, hf⟩ := bd_s hf
    refine rw_Sv (wn := wRo K hRo (wA s10 10 o11)) (As := [.ref (hRo 10), .int (0 : Int32)]) (rest := []) ⟨hx, hb, hml, hown, hts⟩ (c_J7_fill_53178 l D K F (hRo 10) 81 H.size (s10.2.2.1 10) (0 : Int32) o11 go11) (va_cwS 2 hts (gcS_J7_fill_53178 (mB8 _ (List.mem_of_getElem? (i := 22) rfl))) rfl rfl rfl hdS_J7_fill_53178 ⟨Nat.le_of_ble_eq_true rfl, Nat.le_of_ble_eq_true rfl⟩) hK hP hD hS hA [1] [0, 2, 3, 4, 5, 6, 7, 8, 9] [0, 9, 1, 2, 3, 4, 5, 6, 7, 8] rfl rfl (by decide +kernel) (by decide +kernel) (by decide +kernel) rfl (by decide +kernel) rfl hl.1 rfl (Nat.le_of_ble_eq_true rfl) dX9_clear_55 ⟨Nat.zero_le _, Nat.zero_le _⟩ (fun H locs hP hD hS => ?_)
    have hP : va_P D vwCl (wRo K hRo (wA s10 10 o11)) H := hP
    have hD : va_D A (wRo K hRo (wA s10 10 o11)) := hD
    obtain ⟨s12, es12⟩ : ∃ z, z = (wA s10 10 o11) := ⟨_, rfl⟩
    have hP : va_P D vwCl (wRo K hRo s12) H := by rw [es12]; exact hP
    have hD : va_D A (wRo K hRo s12) := by rw [es12]; exact hD
    have hf := lz_s hf s12 es12
    refine lv_aload_n hx hb dX9_clear_58 rfl (lv_at hl 0 rfl) ?_
    refine va_get (D := D) (ci := 8) (v := .ref (hRo 11)) (C := RX9) (T := TX9) (N := 19) hx hb hts iX9 hown hK hP 0 o_Ro rfl 11 (by decide) (htl _ (mB3 _ (List.mem_of_getElem? (i := 5) rfl))) (fun _ h9 => h9) rfl dX9_clear_59 ?_
    refine lv_iconst (v := (0 : Int32)) hx hb dX9_clear_62 (by decide) ?_
    obtain ⟨o13, go13, hf⟩ := bd_s hf
    refine rw_Sv (wn := wRo K hRo (wA s12 11 o13)) (As := [.ref (hRo 11), .int (0 : Int32)]) (rest := []) ⟨hx, hb, hml, hown, hts⟩ (c_J7_fill_53178 l D K F (hRo 11) 81 H.size (s12.2.2.1 11) (0 : Int32) o13 go13) (va_cwS 2 hts (gcS_J7_fill_53178 (mB8 _ (List.mem_of_getElem? (i := 22) rfl))) rfl rfl rfl hdS_J7_fill_53178 ⟨Nat.le_of_ble_eq_true rfl, Nat.le_of_ble_eq_true rfl⟩) hK hP hD hS hA [2] [0, 1, 3, 4, 5, 6, 7, 8, 9] [0, 1, 9, 2, 3, 4, 5, 6, 7, 8] rfl rfl (by decide +kernel) (by decide +kernel) (by decide +kernel) rfl (by decide +kernel) rfl hl.1 rfl (Nat.le_of_ble_eq_true rfl) dX9_clear_63 ⟨Nat.zero_le _, Nat.zero_le _⟩ (fun H locs hP hD hS => ?_)
    have hP : va_P D vwCl (wRo K hRo (wA s12 11 o13)) H := hP
    have hD : va_D A (wRo K hRo (wA s12 11 o13)) := hD
    obtain ⟨s14, es14⟩ : ∃ z, z = (wA s12 11 o13) := ⟨_, rfl⟩
    have hP : va_P D vwCl (wRo K hRo s14) H := by rw [es14]; exact hP
    have hD : va_D A (wRo K hRo s14) := by rw [es14]; exact hD
    have hf := lz_s hf s14 es14
    refine lv_aload_n hx hb dX9_clear_66 rfl (lv_at hl 0 rfl) ?_
    refine va_get (D := D) (ci := 8) (v := .ref (hRo 12)) (C := RX9) (T := TX9) (N := 19) hx hb hts iX9 hown hK hP 0 o_Ro rfl 12 (by decide) (htl _ (mB3 _ (List.mem_of_getElem? (i := 6) rfl))) (fun _ h9 => h9) rfl dX9_clear_67 ?_
    refine lv_iconst (v := (0 : Int32)) hx hb dX9_clear_70 (by decide) ?_
    obtain ⟨o15, go15, hf⟩ := bd_s hf
    refine rw_Sv (wn := wRo K hRo (wA s14 12 o15)) (As := [.ref (hRo 12), .int (0 : Int32)]) (rest := []) ⟨hx, hb, hml, hown, hts⟩ (c_J7_fill_53178 l D K F (hRo 12) 9 H.size (s14.2.2.1 12) (0 : Int32) o15 go15) (va_cwS 2 hts (gcS_J7_fill_53178 (mB8 _ (List.mem_of_getElem? (i := 22) rfl))) rfl rfl rfl hdS_J7_fill_53178 ⟨Nat.le_of_ble_eq_true rfl, Nat.le_of_ble_eq_true rfl⟩) hK hP hD hS hA [3] [0, 1, 2, 4, 5, 6, 7, 8, 9] [0, 1, 2, 9, 3, 4, 5, 6, 7, 8] rfl rfl (by decide +kernel) (by decide +kernel) (by decide +kernel) rfl (by decide +kernel) rfl hl.1 rfl (Nat.le_of_ble_eq_true rfl) dX9_clear_71 ⟨Nat.zero_le _, Nat.zero_le _⟩ (fun H locs hP hD hS => ?_)
    have hP : va_P D vwCl (wRo K hRo (wA s14 12 o15)) H := hP
    have hD : va_D A (wRo K hRo (wA s14 12 o15)) := hD
    obtain ⟨s16, es16⟩ : ∃ z, z = (wA s14 12 o15) := ⟨_, rfl⟩
    have hP : va_P D vwCl (wRo K hRo s16) H := by rw [es16]; exact hP
    have hD : va_D A (wRo K hRo s16) := by rw [es16]; exact hD
    have hf := lz_s hf s16 es16
    refine lv_aload_n hx hb dX9_clear_74 rfl (lv_at hl 0 rfl) ?_
    refine va_get (D := D) (ci := 8) (v := .ref (hRo 13)) (C := RX9) (T := TX9) (N := 19) hx hb hts iX9 hown hK hP 0 o_Ro rfl 13 (by decide) (htl _ (mB3 _ (List.mem_of_getElem? (i := 7) rfl))) (fun _ h9 => h9) rfl dX9_clear_75 ?_
    refine lv_iconst (v := (0 : Int32)) hx hb dX9_clear_78 (by decide) ?_
    obtain ⟨o17, go17, hf⟩ := bd_s hf
    refine rw_Sv (wn := wRo K hRo (wA s16 13 o17)) (As := [.ref (hRo 13), .int (0 : Int32)]) (rest := []) ⟨hx, hb, hml, hown, hts⟩ (c_J7_fill_53178 l D K F (hRo 13) 9 H.size (s16.2.2.1 13) (0 : Int32) o17 go17) (va_cwS 2 hts (gcS_J7_fill_53178 (mB8 _ (List.mem_of_getElem? (i := 22) rfl))) rfl rfl rfl hdS_J7_fill_53178 ⟨Nat.le_of_ble_eq_true rfl, Nat.le_of_ble_eq_true rfl⟩) hK hP hD hS hA [4] [0, 1, 2, 3, 5, 6, 7, 8, 9] [0, 1, 2, 3, 9, 4, 5, 6, 7, 8] rfl rfl (by decide +kernel) (by decide +kernel) (by decide +kernel) rfl (by decide +kernel) rfl hl.1 rfl (Nat.le_of_ble_eq_true rfl) dX9_clear_79 ⟨Nat.zero_le _, Nat.zero_le _⟩ (fun H locs hP hD hS => ?_)
    have hP : va_P D vwCl (wRo K hRo (wA s16 13 o17)) H := hP
    have hD : va_D A (wRo K hRo (wA s16 13 o17)) := hD
    obtain ⟨s18, es18⟩ : ∃ z, z = (wA s16 13 o17) := ⟨_, rfl⟩
    have hP : va_P D vwCl (wRo K hRo s18) H := by rw [es18]; exact hP
    have hD : va_D A (wRo K hRo s18) := by rw [es18]; exact hD
    have hf := lz_s hf s18 es18
    refine lv_aload_n hx hb dX9_clear_82 rfl (lv_at hl 0 rfl) ?_
    refine va_get (D := D) (ci := 8) (v := .ref (hRo 14)) (C := RX9) (T := TX9) (N := 19) hx hb hts iX9 hown hK hP 0 o_Ro rfl 14 (by decide) (htl _ (mB3 _ (List.mem_of_getElem? (i := 8) rfl))) (fun _ h9 => h9) rfl dX9_clear_83 ?_
    refine lv_iconst (v := (0 : Int32)) hx hb dX9_clear_86 (by decide) ?_
    obtain ⟨o19, go19, hf⟩ := bd_s hf
    refine rw_Sv (wn := wRo K hRo (wA s18 14 o19)) (As := [.ref (hRo 14), .int (0 : Int32)]) (rest := []) ⟨hx, hb, hml, hown, hts⟩ (c_J7_fill_53178 l D K F (hRo 14) 9 H.size (s18.2.2.1 14) (0 : Int32) o19 go19) (va_cwS 2 hts (gcS_J7_fill_53178 (mB8 _ (List.mem_of_getElem? (i := 22) rfl))) rfl rfl rfl hdS_J7_fill_53178 ⟨Nat.le_of_ble_eq_true rfl, Nat.le_of_ble_eq_true rfl⟩) hK hP hD hS hA [5] [0, 1, 2, 3, 4, 6, 7, 8, 9] [0, 1, 2, 3, 4, 9, 5, 6, 7, 8] rfl rfl (by decide +kernel) (by decide +kernel) (by decide +kernel) rfl (by decide +kernel) rfl hl.1 rfl (Nat.le_of_ble_eq_true rfl) dX9_clear_87 ⟨Nat.zero_le _, Nat.zero_le _⟩ (fun H locs hP hD hS => ?_)
    have hP : va_P D vwCl (wRo K hRo (wA s18 14 o19)) H := hP
    have hD : va_D A (wRo K hRo (wA s18 14 o19)) := hD
    obtain ⟨s20, es20⟩ : ∃ z, z = (wA s18 14 o19) := ⟨_, rfl⟩
    have hP : va_P D vwCl (wRo K hRo s20) H := by rw [es20]; exact hP
    have hD : va_D A (wRo K hRo s20) := by rw [es20]; exact hD
    have hf := lz_s hf s20 es20
    have e9 := Option.some.inj hf
    rw [hQ]
    exact W.vret hx hb hr (fun t ht hW => ⟨⟨s20, rfl, e9, ⟨by rw [ht]; exact hP, va_K.moved hW.alike hK, hD⟩⟩, hS.F ht⟩) hS.2.2 dX9_clear_90
  rw [hHe] at hgo
  exact hgo

def wz_X9_addRoad : List Cond := .code yX9_addRoad cX9_addRoad 5 none :: wsL_law
abbrev r_X9_addRoad : Room := { frames := 0, cells := 0, slots := 0, locals := 0 }
set_option maxHeartbeats 4000000 in
set_option maxRecDepth 100000 in
theorem c_X9_addRoad (l : Launch) (D : va_G) (K : Nat → ClassId) (F : Nat) (hRo : Nat → Nat) (sz : Nat) (sRo : MS) (p1 : Int32) (p2 : Int32) (p3 : Int32) (p4 : Int32) (res : MS) (hf : f_X9_addRoad F p1 p2 p3 p4 sRo = some res) : Met l yX9_addRoad wz_X9_addRoad r_X9_addRoad (va_Pc [.ref (hRo 99), .int p1, .int p2, .int p3, .int p4] (PW D K (wRo K hRo sRo) sz)) (va_Qv (fun u => u = res) (fun u t => BW D K (va_A (wRo K hRo sRo) sz) (wRo K hRo u) t) (va_A (wRo K hRo sRo) sz)) 0 0 (va_A (wRo K hRo sRo) sz) := by
  refine Met.ofW (cc := cX9_addRoad) (maxL := 5) (ret := none) (by decide) rfl ?_
  intro p e s m args below meth c s₁ B hml hv
  obtain ⟨hargs, hsz, hP, hK, hD0⟩ := hv
  have hx := B.exec
  have hb := B.bytes
  have hr := B.returns
  have hts := atoms_spec (ws := wz_X9_addRoad) B.pre
  have htl : ∀ w ∈ wsL_law, w.before args s = true := fun w h => hts w (List.mem_cons_of_mem _ h)
  have hown : s.vm.findClass RX9 = some m.cls := findClass_of_methodNamed B.named
  have hlocks := B.notSynchronized
  subst hsz
  have hD := hD0.self (sz := s.heap.size)
  generalize hAe : va_A (wRo K hRo sRo) s.heap.size = A at hD ⊢
  have hA : ∀ q : Nat, s.heap.size ≤ q → A q := fun q h => by rw [← hAe]; exact Or.inr h
  have hS : va_S A s.heap s.heap [] := va_S.rf
  have iX9 : ∀ w ∈ wsX90, w ∈ wz_X9_addRoad := fun w h => List.mem_cons_of_mem _ (inlX9 w h)
  suffices hgo : ∀ Q : State → Prop, Q = MQ below (va_Qv (fun u => u = res) (fun u t => BW D K A (wRo K hRo u) t) A) args s 0 0 A → W p l e (headSpec wz_X9_addRoad r_X9_addRoad).room s m args below meth c s.heap [] 0 0 Q (entryFrame m args 5) from hgo _ rfl
  intro Q hQ
  have hen : entryFrame m args 5 = entryFrame m (([.ref (hRo 99), .int p1, .int p2, .int p3, .int p4] : List Value).toArray) 5 := by rw [hargs]
  have hl := lv_entry ([.ref (hRo 99), .int p1, .int p2, .int p3, .int p4]) (n := 5) (Nat.le_of_ble_eq_true rfl)
  rw [hen, lg_entry_eq]
  generalize (lg_sl ([.ref (hRo 99), .int p1, .int p2, .int p3, .int p4]) ++ List.replicate (5 - (lg_sl ([.ref (hRo 99), .int p1, .int p2, .int p3, .int p4])).length) Slot.unset).toArray = ls at hl ⊢
  have hl : lv_has ls 5 [(0, .ref (hRo 99)), (1, .int p1), (2, .int p2), (3, .int p3), (4, .int p4)] := hl
  unfold f_X9_addRoad at hf
  obtain ⟨H, hHe⟩ : ∃ z, z = s.heap := ⟨_, rfl⟩
  obtain ⟨locs, hLe⟩ : ∃ z : List Loc, z = [] := ⟨_, rfl⟩
  rw [← hLe]
  have hS : va_S A s.heap H locs := by rw [hHe, hLe]; exact hS
  have hP : va_P D vwCl (wRo K hRo sRo) H := by rw [hHe]; exact hP
  have hgo : W p l e (headSpec wz_X9_addRoad r_X9_addRoad).room s m args below meth c H locs 0 0 Q (F0 m 0 ls []) := by
    refine lv_aload_n hx hb dX9_addRoad_0 rfl (lv_at hl 0 rfl) ?_
    refine va_get (D := D) (ci := 8) (v := .ref (hRo 10)) (C := RX9) (T := TX9) (N := 19) hx hb hts iX9 hown hK hP 0 o_Ro rfl 10 (by decide) (htl _ (mB3 _ (List.mem_of_getElem? (i := 4) rfl))) (fun _ h9 => h9) rfl dX9_addRoad_1 ?_
    refine lv_iload_n hx hb dX9_addRoad_4 rfl (lv_at hl 1 rfl) ?_
    refine lv_bipush (v := (9 : Int32)) hx hb dX9_addRoad_5 (by decide) ?_
    refine lv_imul hx hb dX9_addRoad_7 ?_
    refine lv_iload_n hx hb dX9_addRoad_8 rfl (lv_at hl 2 rfl) ?_
    refine lv_iadd hx hb dX9_addRoad_9 ?_
    refine lv_iload_n hx hb dX9_addRoad_10 rfl (lv_at hl 3 rfl) ?_
    obtain ⟨g1, hf⟩ := gd_s hf
    refine va_iast hx hb hK hP hD hS 1 0 (f := sRo.2.2.1 10) a_Ro_10 rfl (vpb_in g1) dX9_addRoad_11 (fun H locs hP hD hS => ?_)
    have hP := cvP sa_Ro_10 hP
    have hD := cvD sa_Ro_10 hD
    obtain ⟨s2, es2⟩ : ∃ z, z = sA sRo 10 (((p1 * (9 : Int32)) + p2).toNatClampNeg) p3 := ⟨_, rfl⟩
    have hP : va_P D vwCl (wRo K hRo s2) H := by rw [es2]; exact hP
    have hD : va_D A (wRo K hRo s2) := by rw [es2]; exact hD
    have hf := lz_s hf s2 es2
    refine lv_aload_n hx hb dX9_addRoad_12 rfl (lv_at hl 0 rfl) ?_
    refine va_get (D := D) (ci := 8) (v := .ref (hRo 10)) (C := RX9) (T := TX9) (N := 19) hx hb hts iX9 hown hK hP 0 o_Ro rfl 10 (by decide) (htl _ (mB3 _ (List.mem_of_getElem? (i := 4) rfl))) (fun _ h9 => h9) rfl dX9_addRoad_13 ?_
    refine lv_iload_n hx hb dX9_addRoad_16 rfl (lv_at hl 2 rfl) ?_
    refine lv_bipush (v := (9 : Int32)) hx hb dX9_addRoad_17 (by decide) ?_
    refine lv_imul hx hb dX9_addRoad_19 ?_
    refine lv_iload_n hx hb dX9_addRoad_20 rfl (lv_at hl 1 rfl) ?_
    refine lv_iadd hx hb dX9_addRoad_21 ?_
    refine lv_iload_n hx hb dX9_addRoad_22 rfl (lv_at hl 3 rfl) ?_
    obtain ⟨g3, hf⟩ := gd_s hf
    refine va_iast hx hb hK hP hD hS 1 0 (f := s2.2.2.1 10) a_Ro_10 rfl (vpb_in g3) dX9_addRoad_23 (fun H locs hP hD hS => ?_)
    have hP := cvP sa_Ro_10 hP
    have hD := cvD sa_Ro_10 hD
    obtain ⟨s4, es4⟩ : ∃ z, z = sA s2 10 (((p2 * (9 : Int32)) + p1).toNatClampNeg) p3 := ⟨_, rfl⟩
    have hP : va_P D vwCl (wRo K hRo s4) H := by rw [es4]; exact hP
    have hD : va_D A (wRo K hRo s4) := by rw [es4]; exact hD
    have hf := lz_s hf s4 es4
    refine lv_aload_n hx hb dX9_addRoad_24 rfl (lv_at hl 0 rfl) ?_
    refine va_get (D := D) (ci := 8) (v := .ref (hRo 11)) (C := RX9) (T := TX9) (N := 19) hx hb hts iX9 hown hK hP 0 o_Ro rfl 11 (by decide) (htl _ (mB3 _ (List.mem_of_getElem? (i := 5) rfl))) (fun _ h9 => h9) rfl dX9_addRoad_25 ?_
    refine lv_iload_n hx hb dX9_addRoad_28 rfl (lv_at hl 1 rfl) ?_
    refine lv_bipush (v := (9 : Int32)) hx hb dX9_addRoad_29 (by decide) ?_
    refine lv_imul hx hb dX9_addRoad_31 ?_
    refine lv_iload_n hx hb dX9_addRoad_32 rfl (lv_at hl 2 rfl) ?_
    refine lv_iadd hx hb dX9_addRoad_33 ?_
    refine lv_iload hx hb dX9_addRoad_34 (lv_at hl 4 rfl) ?_
    obtain ⟨g5, hf⟩ := gd_s hf
    refine va_iast hx hb hK hP hD hS 2 0 (f := s4.2.2.1 11) a_Ro_11 rfl (vpb_in g5) dX9_addRoad_36 (fun H locs hP hD hS => ?_)
    have hP := cvP sa_Ro_11 hP
    have hD := cvD sa_Ro_11 hD
    obtain ⟨s6, es6⟩ : ∃ z, z = sA s4 11 (((p1 * (9 : Int32)) + p2).toNatClampNeg) p4 := ⟨_, rfl⟩
    have hP : va_P D vwCl (wRo K hRo s6) H := by rw [es6]; exact hP
    have hD : va_D A (wRo K hRo s6) := by rw [es6]; exact hD
    have hf := lz_s hf s6 es6
    refine lv_aload_n hx hb dX9_addRoad_37 rfl (lv_at hl 0 rfl) ?_
    refine va_get (D := D) (ci := 8) (v := .ref (hRo 11)) (C := RX9) (T := TX9) (N := 19) hx hb hts iX9 hown hK hP 0 o_Ro rfl 11 (by decide) (htl _ (mB3 _ (List.mem_of_getElem? (i := 5) rfl))) (fun _ h9 => h9) rfl dX9_addRoad_38 ?_
    refine lv_iload_n hx hb dX9_addRoad_41 rfl (lv_at hl 2 rfl) ?_
    refine lv_bipush (v := (9 : Int32)) hx hb dX9_addRoad_42 (by decide) ?_
    refine lv_imul hx hb dX9_addRoad_44 ?_
    refine lv_iload_n hx hb dX9_addRoad_45 rfl (lv_at hl 1 rfl) ?_
    refine lv_iadd hx hb dX9_addRoad_46 ?_
    refine lv_iload hx hb dX9_addRoad_47 (lv_at hl 4 rfl) ?_
    obtain ⟨g7, hf⟩ := gd_s hf
    refine va_iast hx hb hK hP hD hS 2 0 (f := s6.2.2.1 11) a_Ro_11 rfl (vpb_in g7) dX9_addRoad_49 (fun H locs hP hD hS => ?_)
    have hP := cvP sa_Ro_11 hP
    have hD := cvD sa_Ro_11 hD
    obtain ⟨s8, es8⟩ : ∃ z, z = sA s6 11 (((p2 * (9 : Int32)) + p1).toNatClampNeg) p4 := ⟨_, rfl⟩
    have hP : va_P D vwCl (wRo K hRo s8) H := by rw [es8]; exact hP
    have hD : va_D A (wRo K hRo s8) := by rw [es8]; exact hD
    have hf := lz_s hf s8 es8
    refine lv_aload_n hx hb dX9_addRoad_50 rfl (lv_at hl 0 rfl) ?_
    refine lv_dup hx hb dX9_addRoad_51 rfl ?_
    refine va_get (D := D) (ci := 8) (v := .int (s8.1 6)) (C := RX9) (T := TX9) (N := 19) hx hb hts iX9 hown hK hP 0 o_Ro rfl 6 (by decide) (htl _ (mB8 _ (List.mem_of_getElem? (i := 18) rfl))) (fun _ h9 => h9) rfl dX9_addRoad_52 ?_
    refine lv_iconst (v := (1 : Int32)) hx hb dX9_addRoad_55 (by decide) ?_
    refine lv_iadd hx hb dX9_addRoad_56 ?_
    refine lv_topi (fun v9 ev9 => ?_)
    have hf := lz_s hf v9 ev9
    refine va_put (D := D) (ci := 8) (v := .int v9) (ty := .int) (C := RX9) (T := TX9) (N := 19) hx hb hts iX9 tyX9 tyX9_ok nmX9 hown hK hP hD hS 0 o_Ro rfl 6 (by decide) (htl _ (mB8 _ (List.mem_of_getElem? (i := 18) rfl))) (fun _ h9 => h9) rfl (by decide +kernel) rfl rfl (Nat.le_of_ble_eq_true rfl) dX9_addRoad_57 (fun H locs hP hD hS => ?_)
    have hP := cvP si_Ro_6 hP
    have hD := cvD si_Ro_6 hD
    obtain ⟨s10, es10⟩ : ∃ z, z = sI s8 6 v9 := ⟨_, rfl⟩
    have hP : va_P D vwCl (wRo K hRo s10) H := by rw [es10]; exact hP
    have hD : va_D A (wRo K hRo s10) := by rw [es10]; exact hD
    have hf := lz_s hf s10 es10
    have e9 := Option.some.inj hf
    rw [hQ]
    exact W.vret hx hb hr (fun t ht hW => ⟨⟨s10, rfl, e9, ⟨by rw [ht]; exact hP, va_K.moved hW.alike hK, hD⟩⟩, hS.F ht⟩) hS.2.2 dX9_addRoad_60
  rw [hHe] at hgo
  exact hgo

def wz_X9_isTold : List Cond := .code yX9_isTold cX9_isTold 1 (some .boolean) :: wsL_law
abbrev r_X9_isTold : Room := { frames := 0, cells := 0, slots := 0, locals := 0 }
set_option maxHeartbeats 4000000 in
set_option maxRecDepth 100000 in
theorem c_X9_isTold (l : Launch) (D : va_G) (K : Nat → ClassId) (F : Nat) (hRo : Nat → Nat) (sRo : MS) (res : Int32) (hf : f_X9_isTold F sRo = some res) : Met l yX9_isTold wz_X9_isTold r_X9_isTold (va_Pc [.ref (hRo 99)] (PR D K (wRo K hRo sRo))) (va_Qi (fun r (_ : Unit) => r = res) BN nOne) 0 0 nOne := by
  refine Met.ofW (cc := cX9_isTold) (maxL := 1) (ret := (some .boolean)) (by decide) rfl ?_
  intro p e s m args below meth c s₁ B hml hv
  obtain ⟨hargs, hP, hK⟩ := hv
  have hx := B.exec
  have hb := B.bytes
  have hr := B.returns
  have hts := atoms_spec (ws := wz_X9_isTold) B.pre
  have htl : ∀ w ∈ wsL_law, w.before args s = true := fun w h => hts w (List.mem_cons_of_mem _ h)
  have hown : s.vm.findClass RX9 = some m.cls := findClass_of_methodNamed B.named
  have hlocks := B.notSynchronized
  have hS : va_S nOne s.heap s.heap [] := va_S.rf
  have iX9 : ∀ w ∈ wsX90, w ∈ wz_X9_isTold := fun w h => List.mem_cons_of_mem _ (inlX9 w h)
  suffices hgo : ∀ Q : State → Prop, Q = MQ below (va_Qi (fun r (_ : Unit) => r = res) BN nOne) args s 0 0 nOne → W p l e (headSpec wz_X9_isTold r_X9_isTold).room s m args below meth c s.heap [] 0 0 Q (entryFrame m args 1) from hgo _ rfl
  intro Q hQ
  have hen : entryFrame m args 1 = entryFrame m (([.ref (hRo 99)] : List Value).toArray) 1 := by rw [hargs]
  have hl := lv_entry ([.ref (hRo 99)]) (n := 1) (Nat.le_of_ble_eq_true rfl)
  rw [hen, lg_entry_eq]
  generalize (lg_sl ([.ref (hRo 99)]) ++ List.replicate (1 - (lg_sl ([.ref (hRo 99)])).length) Slot.unset).toArray = ls at hl ⊢
  have hl : lv_has ls 1 [(0, .ref (hRo 99))] := hl
  unfold f_X9_isTold at hf
  obtain ⟨H, hHe⟩ : ∃ z, z = s.heap := ⟨_, rfl⟩
  obtain ⟨locs, hLe⟩ : ∃ z : List Loc, z = [] := ⟨_, rfl⟩
  rw [← hLe]
  have hS : va_S nOne s.heap H locs := by rw [hHe, hLe]; exact hS
  have hP : va_P D vwCl (wRo K hRo sRo) H := by rw [hHe]; exact hP
  have hgo : W p l e (headSpec wz_X9_isTold r_X9_isTold).room s m args below meth c H locs 0 0 Q (F0 m 0 ls []) := by
    refine lv_aload_n hx hb dX9_isTold_0 rfl (lv_at hl 0 rfl) ?_
    refine va_get (D := D) (ci := 8) (v := .int (sRo.1 8)) (C := RX9) (T := TX9) (N := 19) hx hb hts iX9 hown hK hP 0 o_Ro rfl 8 (by decide) (htl _ (mB8 _ (List.mem_of_getElem? (i := 20) rfl))) (fun _ h9 => h9) rfl dX9_isTold_1 ?_
    refine lv_if_le (tgt := 11) hx hb dX9_isTold_4 (by decide) (fun c1 => ?_) (fun c1 => ?_)
    · have hf := it_t hf c1
      refine lv_iconst (v := (0 : Int32)) hx hb dX9_isTold_11 (by decide) ?_
      have e9 := Option.some.inj hf
      rw [hQ]
      exact W.zret (v := (0 : Int32)) hx hb hr rfl (fun t ht hW => ⟨⟨(0 : Int32), (), rfl, e9, trivial⟩, hS.F ht⟩) hS.2.2 dX9_isTold_12
    · have hf := it_f hf c1
      refine lv_iconst (v := (1 : Int32)) hx hb dX9_isTold_7 (by decide) ?_
      refine lv_goto (tgt := 12) hx hb dX9_isTold_8 (by decide) ?_
      have e9 := Option.some.inj hf
      rw [hQ]
      exact W.zret (v := (1 : Int32)) hx hb hr rfl (fun t ht hW => ⟨⟨(1 : Int32), (), rfl, e9, trivial⟩, hS.F ht⟩) hS.2.2 dX9_isTold_12
  rw [hHe] at hgo
  exact hgo

def wz_X9_isPlace : List Cond := .code yX9_isPlace cX9_isPlace 2 (some .boolean) :: wsL_law
abbrev r_X9_isPlace : Room := { frames := 0, cells := 0, slots := 0, locals := 0 }
set_option maxHeartbeats 4000000 in
set_option maxRecDepth 100000 in
theorem c_X9_isPlace (l : Launch) (D : va_G) (K : Nat → ClassId) (F : Nat) (hRo : Nat → Nat) (sRo : MS) (p1 : Int32) (res : Int32) (hf : f_X9_isPlace F sRo p1 = some res) : Met l yX9_isPlace wz_X9_isPlace r_X9_isPlace (va_Pc [.ref (hRo 99), .int p1] (PR D K (wRo K hRo sRo))) (va_Qi (fun r (_ : Unit) => r = res) BN nOne) 0 0 nOne := by
  refine Met.ofW (cc := cX9_isPlace) (maxL := 2) (ret := (some .boolean)) (by decide) rfl ?_
  intro p e s m args below meth c s₁ B hml hv
  obtain ⟨hargs, hP, hK⟩ := hv
  have hx := B.exec
  have hb := B.bytes
  have hr := B.returns
  have hts := atoms_spec (ws := wz_X9_isPlace) B.pre
  have htl : ∀ w ∈ wsL_law, w.before args s = true := fun w h => hts w (List.mem_cons_of_mem _ h)
  have hown : s.vm.findClass RX9 = some m.cls := findClass_of_methodNamed B.named
  have hlocks := B.notSynchronized
  have hS : va_S nOne s.heap s.heap [] := va_S.rf
  have iX9 : ∀ w ∈ wsX90, w ∈ wz_X9_isPlace := fun w h => List.mem_cons_of_mem _ (inlX9 w h)
  suffices hgo : ∀ Q : State → Prop, Q = MQ below (va_Qi (fun r (_ : Unit) => r = res) BN nOne) args s 0 0 nOne → W p l e (headSpec wz_X9_isPlace r_X9_isPlace).room s m args below meth c s.heap [] 0 0 Q (entryFrame m args 2) from hgo _ rfl
  intro Q hQ
  have hen : entryFrame m args 2 = entryFrame m (([.ref (hRo 99), .int p1] : List Value).toArray) 2 := by rw [hargs]
  have hl := lv_entry ([.ref (hRo 99), .int p1]) (n := 2) (Nat.le_of_ble_eq_true rfl)
  rw [hen, lg_entry_eq]
  generalize (lg_sl ([.ref (hRo 99), .int p1]) ++ List.replicate (2 - (lg_sl ([.ref (hRo 99), .int p1])).length) Slot.unset).toArray = ls at hl ⊢
  have hl : lv_has ls 2 [(0, .ref (hRo 99)), (1, .int p1)] := hl
  unfold f_X9_isPlace at hf
  obtain ⟨H, hHe⟩ : ∃ z, z = s.heap := ⟨_, rfl⟩
  obtain ⟨locs, hLe⟩ : ∃ z : List Loc, z = [] := ⟨_, rfl⟩
  rw [← hLe]
  have hS : va_S nOne s.heap H locs := by rw [hHe, hLe]; exact hS
  have hP : va_P D vwCl (wRo K hRo sRo) H := by rw [hHe]; exact hP
  have hgo : W p l e (headSpec wz_X9_isPlace r_X9_isPlace).room s m args below meth c H locs 0 0 Q (F0 m 0 ls []) := by
    refine lv_iload_n hx hb dX9_isPlace_0 rfl (lv_at hl 1 rfl) ?_
    refine lv_if_lt (tgt := 16) hx hb dX9_isPlace_1 (by decide) (fun c1 => ?_) (fun c1 => ?_)
    · have hf := it_t hf c1
      refine lv_iconst (v := (0 : Int32)) hx hb dX9_isPlace_16 (by decide) ?_
      have e9 := Option.some.inj hf
      rw [hQ]
      exact W.zret (v := (0 : Int32)) hx hb hr rfl (fun t ht hW => ⟨⟨(0 : Int32), (), rfl, e9, trivial⟩, hS.F ht⟩) hS.2.2 dX9_isPlace_17
    · have hf := it_f hf c1
      refine lv_iload_n hx hb dX9_isPlace_4 rfl (lv_at hl 1 rfl) ?_
      refine lv_aload_n hx hb dX9_isPlace_5 rfl (lv_at hl 0 rfl) ?_
      refine va_get (D := D) (ci := 8) (v := .int (sRo.1 5)) (C := RX9) (T := TX9) (N := 19) hx hb hts iX9 hown hK hP 0 o_Ro rfl 5 (by decide) (htl _ (mB8 _ (List.mem_of_getElem? (i := 17) rfl))) (fun _ h9 => h9) rfl dX9_isPlace_6 ?_
      refine lv_icmp_ge (tgt := 16) hx hb dX9_isPlace_9 (by decide) (fun c2 => ?_) (fun c2 => ?_)
      · have hf := it_t hf c2
        refine lv_iconst (v := (0 : Int32)) hx hb dX9_isPlace_16 (by decide) ?_
        have e9 := Option.some.inj hf
        rw [hQ]
        exact W.zret (v := (0 : Int32)) hx hb hr rfl (fun t ht hW => ⟨⟨(0 : Int32), (), rfl, e9, trivial⟩, hS.F ht⟩) hS.2.2 dX9_isPlace_17
      · have hf := it_f hf c2
        refine lv_iconst (v := (1 : Int32)) hx hb dX9_isPlace_12 (by decide) ?_
        refine lv_goto (tgt := 17) hx hb dX9_isPlace_13 (by decide) ?_
        have e9 := Option.some.inj hf
        rw [hQ]
        exact W.zret (v := (1 : Int32)) hx hb hr rfl (fun t ht hW => ⟨⟨(1 : Int32), (), rfl, e9, trivial⟩, hS.F ht⟩) hS.2.2 dX9_isPlace_17
  rw [hHe] at hgo
  exact hgo

def wz_X9_isStation : List Cond := .code yX9_isStation cX9_isStation 2 (some .boolean) :: wsL_law
abbrev r_X9_isStation : Room := { frames := 0, cells := 0, slots := 0, locals := 0 }
set_option maxHeartbeats 4000000 in
set_option maxRecDepth 100000 in
theorem c_X9_isStation (l : Launch) (D : va_G) (K : Nat → ClassId) (F : Nat) (hRo : Nat → Nat) (sRo : MS) (p1 : Int32) (res : Int32) (hf : f_X9_isStation F sRo p1 = some res) : Met l yX9_isStation wz_X9_isStation r_X9_isStation (va_Pc [.ref (hRo 99), .int p1] (PR D K (wRo K hRo sRo))) (va_Qi (fun r (_ : Unit) => r = res) BN nOne) 0 0 nOne := by
  refine Met.ofW (cc := cX9_isStation) (maxL := 2) (ret := (some .boolean)) (by decide) rfl ?_
  intro p e s m args below meth c s₁ B hml hv
  obtain ⟨hargs, hP, hK⟩ := hv
  have hx := B.exec
  have hb := B.bytes
  have hr := B.returns
  have hts := atoms_spec (ws := wz_X9_isStation) B.pre
  have htl : ∀ w ∈ wsL_law, w.before args s = true := fun w h => hts w (List.mem_cons_of_mem _ h)
  have hown : s.vm.findClass RX9 = some m.cls := findClass_of_methodNamed B.named
  have hlocks := B.notSynchronized
  have hS : va_S nOne s.heap s.heap [] := va_S.rf
  have iX9 : ∀ w ∈ wsX90, w ∈ wz_X9_isStation := fun w h => List.mem_cons_of_mem _ (inlX9 w h)
  suffices hgo : ∀ Q : State → Prop, Q = MQ below (va_Qi (fun r (_ : Unit) => r = res) BN nOne) args s 0 0 nOne → W p l e (headSpec wz_X9_isStation r_X9_isStation).room s m args below meth c s.heap [] 0 0 Q (entryFrame m args 2) from hgo _ rfl
  intro Q hQ
  have hen : entryFrame m args 2 = entryFrame m (([.ref (hRo 99), .int p1] : List Value).toArray) 2 := by rw [hargs]
  have hl := lv_entry ([.ref (hRo 99), .int p1]) (n := 2) (Nat.le_of_ble_eq_true rfl)
  rw [hen, lg_entry_eq]
  generalize (lg_sl ([.ref (hRo 99), .int p1]) ++ List.replicate (2 - (lg_sl ([.ref (hRo 99), .int p1])).length) Slot.unset).toArray = ls at hl ⊢
  have hl : lv_has ls 2 [(0, .ref (hRo 99)), (1, .int p1)] := hl
  unfold f_X9_isStation at hf
  obtain ⟨H, hHe⟩ : ∃ z, z = s.heap := ⟨_, rfl⟩
  obtain ⟨locs, hLe⟩ : ∃ z : List Loc, z = [] := ⟨_, rfl⟩
  rw [← hLe]
  have hS : va_S nOne s.heap H locs := by rw [hHe, hLe]; exact hS
  have hP : va_P D vwCl (wRo K hRo sRo) H := by rw [hHe]; exact hP
  have hgo : W p l e (headSpec wz_X9_isStation r_X9_isStation).room s m args below meth c H locs 0 0 Q (F0 m 0 ls []) := by
    refine lv_iload_n hx hb dX9_isStation_0 rfl (lv_at hl 1 rfl) ?_
    refine lv_if_lt (tgt := 16) hx hb dX9_isStation_1 (by decide) (fun c1 => ?_) (fun c1 => ?_)
    · have hf := it_t hf c1
      refine lv_iconst (v := (0 : Int32)) hx hb dX9_isStation_16 (by decide) ?_
      have e9 := Option.some.inj hf
      rw [hQ]
      exact W.zret (v := (0 : Int32)) hx hb hr rfl (fun t ht hW => ⟨⟨(0 : Int32), (), rfl, e9, trivial⟩, hS.F ht⟩) hS.2.2 dX9_isStation_17
    · have hf := it_f hf c1
      refine lv_iload_n hx hb dX9_isStation_4 rfl (lv_at hl 1 rfl) ?_
      refine lv_aload_n hx hb dX9_isStation_5 rfl (lv_at hl 0 rfl) ?_
      refine va_get (D := D) (ci := 8) (v := .int (sRo.1 8)) (C := RX9) (T := TX9) (N := 19) hx hb hts iX9 hown hK hP 0 o_Ro rfl 8 (by decide) (htl _ (mB8 _ (List.mem_of_getElem? (i := 20) rfl))) (fun _ h9 => h9) rfl dX9_isStation_6 ?_
      refine lv_icmp_ge (tgt := 16) hx hb dX9_isStation_9 (by decide) (fun c2 => ?_) (fun c2 => ?_)
      · have hf := it_t hf c2
        refine lv_iconst (v := (0 : Int32)) hx hb dX9_isStation_16 (by decide) ?_
        have e9 := Option.some.inj hf
        rw [hQ]
        exact W.zret (v := (0 : Int32)) hx hb hr rfl (fun t ht hW => ⟨⟨(0 : Int32), (), rfl, e9, trivial⟩, hS.F ht⟩) hS.2.2 dX9_isStation_17
      · have hf := it_f hf c2
        refine lv_iconst (v := (1 : Int32)) hx hb dX9_isStation_12 (by decide) ?_
        refine lv_goto (tgt := 17) hx hb dX9_isStation_13 (by decide) ?_
        have e9 := Option.some.inj hf
        rw [hQ]
        exact W.zret (v := (1 : Int32)) hx hb hr rfl (fun t ht hW => ⟨⟨(1 : Int32), (), rfl, e9, trivial⟩, hS.F ht⟩) hS.2.2 dX9_isStation_17
  rw [hHe] at hgo
  exact hgo

def wz_X9_isLeft : List Cond := .code yX9_isLeft cX9_isLeft 2 (some .boolean) :: wsL_law
abbrev r_X9_isLeft : Room := { frames := 0, cells := 0, slots := 0, locals := 0 }
set_option maxHeartbeats 4000000 in
set_option maxRecDepth 100000 in
theorem c_X9_isLeft (l : Launch) (D : va_G) (K : Nat → ClassId) (F : Nat) (hRo : Nat → Nat) (sRo : MS) (p1 : Int32) (res : Int32) (hf : f_X9_isLeft F sRo p1 = some res) : Met l yX9_isLeft wz_X9_isLeft r_X9_isLeft (va_Pc [.ref (hRo 99), .int p1] (PR D K (wRo K hRo sRo))) (va_Qi (fun r (_ : Unit) => r = res) BN nOne) 0 0 nOne := by
  refine Met.ofW (cc := cX9_isLeft) (maxL := 2) (ret := (some .boolean)) (by decide) rfl ?_
  intro p e s m args below meth c s₁ B hml hv
  obtain ⟨hargs, hP, hK⟩ := hv
  have hx := B.exec
  have hb := B.bytes
  have hr := B.returns
  have hts := atoms_spec (ws := wz_X9_isLeft) B.pre
  have htl : ∀ w ∈ wsL_law, w.before args s = true := fun w h => hts w (List.mem_cons_of_mem _ h)
  have hown : s.vm.findClass RX9 = some m.cls := findClass_of_methodNamed B.named
  have hlocks := B.notSynchronized
  have hS : va_S nOne s.heap s.heap [] := va_S.rf
  have iX9 : ∀ w ∈ wsX90, w ∈ wz_X9_isLeft := fun w h => List.mem_cons_of_mem _ (inlX9 w h)
  suffices hgo : ∀ Q : State → Prop, Q = MQ below (va_Qi (fun r (_ : Unit) => r = res) BN nOne) args s 0 0 nOne → W p l e (headSpec wz_X9_isLeft r_X9_isLeft).room s m args below meth c s.heap [] 0 0 Q (entryFrame m args 2) from hgo _ rfl
  intro Q hQ
  have hen : entryFrame m args 2 = entryFrame m (([.ref (hRo 99), .int p1] : List Value).toArray) 2 := by rw [hargs]
  have hl := lv_entry ([.ref (hRo 99), .int p1]) (n := 2) (Nat.le_of_ble_eq_true rfl)
  rw [hen, lg_entry_eq]
  generalize (lg_sl ([.ref (hRo 99), .int p1]) ++ List.replicate (2 - (lg_sl ([.ref (hRo 99), .int p1])).length) Slot.unset).toArray = ls at hl ⊢
  have hl : lv_has ls 2 [(0, .ref (hRo 99)), (1, .int p1)] := hl
  unfold f_X9_isLeft at hf
  obtain ⟨H, hHe⟩ : ∃ z, z = s.heap := ⟨_, rfl⟩
  obtain ⟨locs, hLe⟩ : ∃ z : List Loc, z = [] := ⟨_, rfl⟩
  rw [← hLe]
  have hS : va_S nOne s.heap H locs := by rw [hHe, hLe]; exact hS
  have hP : va_P D vwCl (wRo K hRo sRo) H := by rw [hHe]; exact hP
  have hgo : W p l e (headSpec wz_X9_isLeft r_X9_isLeft).room s m args below meth c H locs 0 0 Q (F0 m 0 ls []) := by
    refine lv_iload_n hx hb dX9_isLeft_0 rfl (lv_at hl 1 rfl) ?_
    refine lv_if_lt (tgt := 18) hx hb dX9_isLeft_1 (by decide) (fun c1 => ?_) (fun c1 => ?_)
    · have hf := it_t hf c1
      refine lv_iconst (v := (0 : Int32)) hx hb dX9_isLeft_18 (by decide) ?_
      have e9 := Option.some.inj hf
      rw [hQ]
      exact W.zret (v := (0 : Int32)) hx hb hr rfl (fun t ht hW => ⟨⟨(0 : Int32), (), rfl, e9, trivial⟩, hS.F ht⟩) hS.2.2 dX9_isLeft_19
    · have hf := it_f hf c1
      refine lv_iload_n hx hb dX9_isLeft_4 rfl (lv_at hl 1 rfl) ?_
      refine lv_aload_n hx hb dX9_isLeft_5 rfl (lv_at hl 0 rfl) ?_
      refine va_get (D := D) (ci := 8) (v := .int (sRo.1 8)) (C := RX9) (T := TX9) (N := 19) hx hb hts iX9 hown hK hP 0 o_Ro rfl 8 (by decide) (htl _ (mB8 _ (List.mem_of_getElem? (i := 20) rfl))) (fun _ h9 => h9) rfl dX9_isLeft_6 ?_
      refine lv_iconst (v := (1 : Int32)) hx hb dX9_isLeft_9 (by decide) ?_
      refine lv_isub hx hb dX9_isLeft_10 ?_
      refine lv_icmp_ge (tgt := 18) hx hb dX9_isLeft_11 (by decide) (fun c2 => ?_) (fun c2 => ?_)
      · have hf := it_t hf c2
        refine lv_iconst (v := (0 : Int32)) hx hb dX9_isLeft_18 (by decide) ?_
        have e9 := Option.some.inj hf
        rw [hQ]
        exact W.zret (v := (0 : Int32)) hx hb hr rfl (fun t ht hW => ⟨⟨(0 : Int32), (), rfl, e9, trivial⟩, hS.F ht⟩) hS.2.2 dX9_isLeft_19
      · have hf := it_f hf c2
        refine lv_iconst (v := (1 : Int32)) hx hb dX9_isLeft_14 (by decide) ?_
        refine lv_goto (tgt := 19) hx hb dX9_isLeft_15 (by decide) ?_
        have e9 := Option.some.inj hf
        rw [hQ]
        exact W.zret (v := (1 : Int32)) hx hb hr rfl (fun t ht hW => ⟨⟨(1 : Int32), (), rfl, e9, trivial⟩, hS.F ht⟩) hS.2.2 dX9_isLeft_19
  rw [hHe] at hgo
  exact hgo

def wz_X9_isLevel : List Cond := .code yX9_isLevel cX9_isLevel 2 (some .boolean) :: wsL_law
abbrev r_X9_isLevel : Room := { frames := 0, cells := 0, slots := 0, locals := 0 }
set_option maxHeartbeats 4000000 in
set_option maxRecDepth 100000 in
theorem c_X9_isLevel (l : Launch) (D : va_G) (K : Nat → ClassId) (F : Nat) (hRo : Nat → Nat) (sRo : MS) (p1 : Int32) (res : Int32) (hf : f_X9_isLevel F sRo p1 = some res) : Met l yX9_isLevel wz_X9_isLevel r_X9_isLevel (va_Pc [.ref (hRo 99), .int p1] (PR D K (wRo K hRo sRo))) (va_Qi (fun r (_ : Unit) => r = res) BN nOne) 0 0 nOne := by
  refine Met.ofW (cc := cX9_isLevel) (maxL := 2) (ret := (some .boolean)) (by decide) rfl ?_
  intro p e s m args below meth c s₁ B hml hv
  obtain ⟨hargs, hP, hK⟩ := hv
  have hx := B.exec
  have hb := B.bytes
  have hr := B.returns
  have hts := atoms_spec (ws := wz_X9_isLevel) B.pre
  have htl : ∀ w ∈ wsL_law, w.before args s = true := fun w h => hts w (List.mem_cons_of_mem _ h)
  have hown : s.vm.findClass RX9 = some m.cls := findClass_of_methodNamed B.named
  have hlocks := B.notSynchronized
  have hS : va_S nOne s.heap s.heap [] := va_S.rf
  have iX9 : ∀ w ∈ wsX90, w ∈ wz_X9_isLevel := fun w h => List.mem_cons_of_mem _ (inlX9 w h)
  suffices hgo : ∀ Q : State → Prop, Q = MQ below (va_Qi (fun r (_ : Unit) => r = res) BN nOne) args s 0 0 nOne → W p l e (headSpec wz_X9_isLevel r_X9_isLevel).room s m args below meth c s.heap [] 0 0 Q (entryFrame m args 2) from hgo _ rfl
  intro Q hQ
  have hen : entryFrame m args 2 = entryFrame m (([.ref (hRo 99), .int p1] : List Value).toArray) 2 := by rw [hargs]
  have hl := lv_entry ([.ref (hRo 99), .int p1]) (n := 2) (Nat.le_of_ble_eq_true rfl)
  rw [hen, lg_entry_eq]
  generalize (lg_sl ([.ref (hRo 99), .int p1]) ++ List.replicate (2 - (lg_sl ([.ref (hRo 99), .int p1])).length) Slot.unset).toArray = ls at hl ⊢
  have hl : lv_has ls 2 [(0, .ref (hRo 99)), (1, .int p1)] := hl
  unfold f_X9_isLevel at hf
  obtain ⟨H, hHe⟩ : ∃ z, z = s.heap := ⟨_, rfl⟩
  obtain ⟨locs, hLe⟩ : ∃ z : List Loc, z = [] := ⟨_, rfl⟩
  rw [← hLe]
  have hS : va_S nOne s.heap H locs := by rw [hHe, hLe]; exact hS
  have hP : va_P D vwCl (wRo K hRo sRo) H := by rw [hHe]; exact hP
  have hgo : W p l e (headSpec wz_X9_isLevel r_X9_isLevel).room s m args below meth c H locs 0 0 Q (F0 m 0 ls []) := by
    refine lv_iload_n hx hb dX9_isLevel_0 rfl (lv_at hl 1 rfl) ?_
    refine lv_if_lt (tgt := 16) hx hb dX9_isLevel_1 (by decide) (fun c1 => ?_) (fun c1 => ?_)
    · have hf := it_t hf c1
      refine lv_iconst (v := (0 : Int32)) hx hb dX9_isLevel_16 (by decide) ?_
      have e9 := Option.some.inj hf
      rw [hQ]
      exact W.zret (v := (0 : Int32)) hx hb hr rfl (fun t ht hW => ⟨⟨(0 : Int32), (), rfl, e9, trivial⟩, hS.F ht⟩) hS.2.2 dX9_isLevel_17
    · have hf := it_f hf c1
      refine lv_iload_n hx hb dX9_isLevel_4 rfl (lv_at hl 1 rfl) ?_
      refine lv_aload_n hx hb dX9_isLevel_5 rfl (lv_at hl 0 rfl) ?_
      refine va_get (D := D) (ci := 8) (v := .int (sRo.1 0)) (C := RX9) (T := TX9) (N := 19) hx hb hts iX9 hown hK hP 0 o_Ro rfl 0 (by decide) (htl _ (mB8 _ (List.mem_of_getElem? (i := 12) rfl))) (fun _ h9 => h9) rfl dX9_isLevel_6 ?_
      refine lv_icmp_gt (tgt := 16) hx hb dX9_isLevel_9 (by decide) (fun c2 => ?_) (fun c2 => ?_)
      · have hf := it_t hf c2
        refine lv_iconst (v := (0 : Int32)) hx hb dX9_isLevel_16 (by decide) ?_
        have e9 := Option.some.inj hf
        rw [hQ]
        exact W.zret (v := (0 : Int32)) hx hb hr rfl (fun t ht hW => ⟨⟨(0 : Int32), (), rfl, e9, trivial⟩, hS.F ht⟩) hS.2.2 dX9_isLevel_17
      · have hf := it_f hf c2
        refine lv_iconst (v := (1 : Int32)) hx hb dX9_isLevel_12 (by decide) ?_
        refine lv_goto (tgt := 17) hx hb dX9_isLevel_13 (by decide) ?_
        have e9 := Option.some.inj hf
        rw [hQ]
        exact W.zret (v := (1 : Int32)) hx hb hr rfl (fun t ht hW => ⟨⟨(1 : Int32), (), rfl, e9, trivial⟩, hS.F ht⟩) hS.2.2 dX9_isLevel_17
  rw [hHe] at hgo
  exact hgo

def wz_X9_pintsOf : List Cond := .code yX9_pintsOf cX9_pintsOf 3 (some .int) :: wsL_law
abbrev r_X9_pintsOf : Room := { frames := 0, cells := 0, slots := 0, locals := 0 }
set_option maxHeartbeats 4000000 in
set_option maxRecDepth 100000 in
theorem c_X9_pintsOf (l : Launch) (D : va_G) (K : Nat → ClassId) (F : Nat) (hRo : Nat → Nat) (sRo : MS) (p1 : Int32) (p2 : Int32) (res : Int32) (hf : f_X9_pintsOf F sRo p1 p2 = some res) : Met l yX9_pintsOf wz_X9_pintsOf r_X9_pintsOf (va_Pc [.ref (hRo 99), .int p1, .int p2] (PR D K (wRo K hRo sRo))) (va_Qi (fun r (_ : Unit) => r = res) BN nOne) 0 0 nOne := by
  refine Met.ofW (cc := cX9_pintsOf) (maxL := 3) (ret := (some .int)) (by decide) rfl ?_
  intro p e s m args below meth c s₁ B hml hv
  obtain ⟨hargs, hP, hK⟩ := hv
  have hx := B.exec
  have hb := B.bytes
  have hr := B.returns
  have hts := atoms_spec (ws := wz_X9_pintsOf) B.pre
  have htl : ∀ w ∈ wsL_law, w.before args s = true := fun w h => hts w (List.mem_cons_of_mem _ h)
  have hown : s.vm.findClass RX9 = some m.cls := findClass_of_methodNamed B.named
  have hlocks := B.notSynchronized
  have hS : va_S nOne s.heap s.heap [] := va_S.rf
  have iX9 : ∀ w ∈ wsX90, w ∈ wz_X9_pintsOf := fun w h => List.mem_cons_of_mem _ (inlX9 w h)
  suffices hgo : ∀ Q : State → Prop, Q = MQ below (va_Qi (fun r (_ : Unit) => r = res) BN nOne) args s 0 0 nOne → W p l e (headSpec wz_X9_pintsOf r_X9_pintsOf).room s m args below meth c s.heap [] 0 0 Q (entryFrame m args 3) from hgo _ rfl
  intro Q hQ
  have hen : entryFrame m args 3 = entryFrame m (([.ref (hRo 99), .int p1, .int p2] : List Value).toArray) 3 := by rw [hargs]
  have hl := lv_entry ([.ref (hRo 99), .int p1, .int p2]) (n := 3) (Nat.le_of_ble_eq_true rfl)
  rw [hen, lg_entry_eq]
  generalize (lg_sl ([.ref (hRo 99), .int p1, .int p2]) ++ List.replicate (3 - (lg_sl ([.ref (hRo 99), .int p1, .int p2])).length) Slot.unset).toArray = ls at hl ⊢
  have hl : lv_has ls 3 [(0, .ref (hRo 99)), (1, .int p1), (2, .int p2)] := hl
  unfold f_X9_pintsOf at hf
  obtain ⟨H, hHe⟩ : ∃ z, z = s.heap := ⟨_, rfl⟩
  obtain ⟨locs, hLe⟩ : ∃ z : List Loc, z = [] := ⟨_, rfl⟩
  rw [← hLe]
  have hS : va_S nOne s.heap H locs := by rw [hHe, hLe]; exact hS
  have hP : va_P D vwCl (wRo K hRo sRo) H := by rw [hHe]; exact hP
  have hgo : W p l e (headSpec wz_X9_pintsOf r_X9_pintsOf).room s m args below meth c H locs 0 0 Q (F0 m 0 ls []) := by
    refine lv_aload_n hx hb dX9_pintsOf_0 rfl (lv_at hl 0 rfl) ?_
    refine va_get (D := D) (ci := 8) (v := .ref (hRo 10)) (C := RX9) (T := TX9) (N := 19) hx hb hts iX9 hown hK hP 0 o_Ro rfl 10 (by decide) (htl _ (mB3 _ (List.mem_of_getElem? (i := 4) rfl))) (fun _ h9 => h9) rfl dX9_pintsOf_1 ?_
    refine lv_iload_n hx hb dX9_pintsOf_4 rfl (lv_at hl 1 rfl) ?_
    refine lv_bipush (v := (9 : Int32)) hx hb dX9_pintsOf_5 (by decide) ?_
    refine lv_imul hx hb dX9_pintsOf_7 ?_
    refine lv_iload_n hx hb dX9_pintsOf_8 rfl (lv_at hl 2 rfl) ?_
    refine lv_iadd hx hb dX9_pintsOf_9 ?_
    obtain ⟨g1, hf⟩ := gd_s hf
    refine va_iald hx hb hK hP 1 0 (f := sRo.2.2.1 10) a_Ro_10 rfl (vpb_in g1) dX9_pintsOf_10 ?_
    refine lv_topi (fun v2 ev2 => ?_)
    have hf := lz_s hf v2 ev2
    have e9 := Option.some.inj hf
    rw [hQ]
    exact W.iret (v := v2) hx hb hr (fun t ht hW => ⟨⟨v2, (), rfl, e9, trivial⟩, hS.F ht⟩) hS.2.2 dX9_pintsOf_11
  rw [hHe] at hgo
  exact hgo

theorem gcV_X9_pintsOf {T0 : Cond} {own : String} {i : Nat} (h : Cond.methodLink own i yX9_pintsOf ∈ wsL_law) : GoodIn (T0 :: wsL_law) (wsV own i RX9 yX9_pintsOf wz_X9_pintsOf) := gV h (mB14 _ (List.mem_of_getElem? (i := 19) rfl)) (mB14 _ (List.mem_of_getElem? (i := 20) rfl)) (mB1 _ (List.mem_of_getElem? (i := 17) rfl)) (mB14 _ (List.mem_of_getElem? (i := 21) rfl))
theorem hdV_X9_pintsOf : yX9_pintsOf.cls = RX9 ∧ yX9_pintsOf.cls ≠ "java/lang/invoke/MethodHandle" ∧ yX9_pintsOf.cls ≠ "java/lang/invoke/VarHandle" ∧ (parseMethodDescriptor yX9_pintsOf.desc).map (fun d => d.parameters.length) = some 2 := by decide +kernel
def wz_X9_isRoad : List Cond := .code yX9_isRoad cX9_isRoad 3 (some .boolean) :: wsL_law
abbrev r_X9_isRoad : Room := { frames := 1, cells := 0, slots := 0, locals := 22 }
set_option maxHeartbeats 4000000 in
set_option maxRecDepth 100000 in
theorem c_X9_isRoad (l : Launch) (D : va_G) (K : Nat → ClassId) (F : Nat) (hRo : Nat → Nat) (sRo : MS) (p1 : Int32) (p2 : Int32) (res : Int32) (hf : f_X9_isRoad F sRo p1 p2 = some res) : Met l yX9_isRoad wz_X9_isRoad r_X9_isRoad (va_Pc [.ref (hRo 99), .int p1, .int p2] (PR D K (wRo K hRo sRo))) (va_Qi (fun r (_ : Unit) => r = res) BN nOne) 0 0 nOne := by
  refine Met.ofW (cc := cX9_isRoad) (maxL := 3) (ret := (some .boolean)) (by decide) rfl ?_
  intro p e s m args below meth c s₁ B hml hv
  obtain ⟨hargs, hP, hK⟩ := hv
  have hx := B.exec
  have hb := B.bytes
  have hr := B.returns
  have hts := atoms_spec (ws := wz_X9_isRoad) B.pre
  have htl : ∀ w ∈ wsL_law, w.before args s = true := fun w h => hts w (List.mem_cons_of_mem _ h)
  have hown : s.vm.findClass RX9 = some m.cls := findClass_of_methodNamed B.named
  have hlocks := B.notSynchronized
  have hS : va_S nOne s.heap s.heap [] := va_S.rf
  suffices hgo : ∀ Q : State → Prop, Q = MQ below (va_Qi (fun r (_ : Unit) => r = res) BN nOne) args s 0 0 nOne → W p l e (headSpec wz_X9_isRoad r_X9_isRoad).room s m args below meth c s.heap [] 0 0 Q (entryFrame m args 3) from hgo _ rfl
  intro Q hQ
  have hen : entryFrame m args 3 = entryFrame m (([.ref (hRo 99), .int p1, .int p2] : List Value).toArray) 3 := by rw [hargs]
  have hl := lv_entry ([.ref (hRo 99), .int p1, .int p2]) (n := 3) (Nat.le_of_ble_eq_true rfl)
  rw [hen, lg_entry_eq]
  generalize (lg_sl ([.ref (hRo 99), .int p1, .int p2]) ++ List.replicate (3 - (lg_sl ([.ref (hRo 99), .int p1, .int p2])).length) Slot.unset).toArray = ls at hl ⊢
  have hl : lv_has ls 3 [(0, .ref (hRo 99)), (1, .int p1), (2, .int p2)] := hl
  unfold f_X9_isRoad at hf
  obtain ⟨H, hHe⟩ : ∃ z, z = s.heap := ⟨_, rfl⟩
  obtain ⟨locs, hLe⟩ : ∃ z : List Loc, z = [] := ⟨_, rfl⟩
  rw [← hLe]
  have hS : va_S nOne s.heap H locs := by rw [hHe, hLe]; exact hS
  have hP : va_P D vwCl (wRo K hRo sRo) H := by rw [hHe]; exact hP
  have hgo : W p l e (headSpec wz_X9_isRoad r_X9_isRoad).room s m args below meth c H locs 0 0 Q (F0 m 0 ls []) := by
    refine lv_aload_n hx hb dX9_isRoad_0 rfl (lv_at hl 0 rfl) ?_
    refine lv_iload_n hx hb dX9_isRoad_1 rfl (lv_at hl 1 rfl) ?_
    refine lv_iload_n hx hb dX9_isRoad_2 rfl (lv_at hl 2 rfl) ?_
    obtain ⟨o1, go1, hf⟩ := bd_s hf
    refine ro_Vi (As := [.int p1, .int p2]) (rest := []) ⟨hx, hb, hml, hown, hts⟩ (c_X9_pintsOf l D K F hRo sRo p1 p2 o1 go1) (cwV 2 hts (gcV_X9_pintsOf (mB14 _ (List.mem_of_getElem? (i := 18) rfl))) rfl rfl rfl hdV_X9_pintsOf ⟨Nat.le_of_ble_eq_true rfl, Nat.le_of_ble_eq_true rfl⟩) hK hP hS hP (va_recv hK hP (ci := 8) (q0 := 0) rfl o_Ro) rfl hl.1 rfl (Nat.le_of_ble_eq_true rfl) dX9_isRoad_3 ⟨Nat.zero_le _, Nat.zero_le _⟩ (fun H locs hP hS => ?_)
    refine lv_if_le (tgt := 13) hx hb dX9_isRoad_6 (by decide) (fun c2 => ?_) (fun c2 => ?_)
    · have hf := it_t hf c2
      refine lv_iconst (v := (0 : Int32)) hx hb dX9_isRoad_13 (by decide) ?_
      have e9 := Option.some.inj hf
      rw [hQ]
      exact W.zret (v := (0 : Int32)) hx hb hr rfl (fun t ht hW => ⟨⟨(0 : Int32), (), rfl, e9, trivial⟩, hS.F ht⟩) hS.2.2 dX9_isRoad_14
    · have hf := it_f hf c2
      refine lv_iconst (v := (1 : Int32)) hx hb dX9_isRoad_9 (by decide) ?_
      refine lv_goto (tgt := 14) hx hb dX9_isRoad_10 (by decide) ?_
      have e9 := Option.some.inj hf
      rw [hQ]
      exact W.zret (v := (1 : Int32)) hx hb hr rfl (fun t ht hW => ⟨⟨(1 : Int32), (), rfl, e9, trivial⟩, hS.F ht⟩) hS.2.2 dX9_isRoad_14
  rw [hHe] at hgo
  exact hgo

def wz_X9_minutesOf : List Cond := .code yX9_minutesOf cX9_minutesOf 3 (some .int) :: wsL_law
abbrev r_X9_minutesOf : Room := { frames := 0, cells := 0, slots := 0, locals := 0 }
set_option maxHeartbeats 4000000 in
set_option maxRecDepth 100000 in
theorem c_X9_minutesOf (l : Launch) (D : va_G) (K : Nat → ClassId) (F : Nat) (hRo : Nat → Nat) (sRo : MS) (p1 : Int32) (p2 : Int32) (res : Int32) (hf : f_X9_minutesOf F sRo p1 p2 = some res) : Met l yX9_minutesOf wz_X9_minutesOf r_X9_minutesOf (va_Pc [.ref (hRo 99), .int p1, .int p2] (PR D K (wRo K hRo sRo))) (va_Qi (fun r (_ : Unit) => r = res) BN nOne) 0 0 nOne := by
  refine Met.ofW (cc := cX9_minutesOf) (maxL := 3) (ret := (some .int)) (by decide) rfl ?_
  intro p e s m args below meth c s₁ B hml hv
  obtain ⟨hargs, hP, hK⟩ := hv
  have hx := B.exec
  have hb := B.bytes
  have hr := B.returns
  have hts := atoms_spec (ws := wz_X9_minutesOf) B.pre
  have htl : ∀ w ∈ wsL_law, w.before args s = true := fun w h => hts w (List.mem_cons_of_mem _ h)
  have hown : s.vm.findClass RX9 = some m.cls := findClass_of_methodNamed B.named
  have hlocks := B.notSynchronized
  have hS : va_S nOne s.heap s.heap [] := va_S.rf
  have iX9 : ∀ w ∈ wsX90, w ∈ wz_X9_minutesOf := fun w h => List.mem_cons_of_mem _ (inlX9 w h)
  suffices hgo : ∀ Q : State → Prop, Q = MQ below (va_Qi (fun r (_ : Unit) => r = res) BN nOne) args s 0 0 nOne → W p l e (headSpec wz_X9_minutesOf r_X9_minutesOf).room s m args below meth c s.heap [] 0 0 Q (entryFrame m args 3) from hgo _ rfl
  intro Q hQ
  have hen : entryFrame m args 3 = entryFrame m (([.ref (hRo 99), .int p1, .int p2] : List Value).toArray) 3 := by rw [hargs]
  have hl := lv_entry ([.ref (hRo 99), .int p1, .int p2]) (n := 3) (Nat.le_of_ble_eq_true rfl)
  rw [hen, lg_entry_eq]
  generalize (lg_sl ([.ref (hRo 99), .int p1, .int p2]) ++ List.replicate (3 - (lg_sl ([.ref (hRo 99), .int p1, .int p2])).length) Slot.unset).toArray = ls at hl ⊢
  have hl : lv_has ls 3 [(0, .ref (hRo 99)), (1, .int p1), (2, .int p2)] := hl
  unfold f_X9_minutesOf at hf
  obtain ⟨H, hHe⟩ : ∃ z, z = s.heap := ⟨_, rfl⟩
  obtain ⟨locs, hLe⟩ : ∃ z : List Loc, z = [] := ⟨_, rfl⟩
  rw [← hLe]
  have hS : va_S nOne s.heap H locs := by rw [hHe, hLe]; exact hS
  have hP : va_P D vwCl (wRo K hRo sRo) H := by rw [hHe]; exact hP
  have hgo : W p l e (headSpec wz_X9_minutesOf r_X9_minutesOf).room s m args below meth c H locs 0 0 Q (F0 m 0 ls []) := by
    refine lv_aload_n hx hb dX9_minutesOf_0 rfl (lv_at hl 0 rfl) ?_
    refine va_get (D := D) (ci := 8) (v := .ref (hRo 11)) (C := RX9) (T := TX9) (N := 19) hx hb hts iX9 hown hK hP 0 o_Ro rfl 11 (by decide) (htl _ (mB3 _ (List.mem_of_getElem? (i := 5) rfl))) (fun _ h9 => h9) rfl dX9_minutesOf_1 ?_
    refine lv_iload_n hx hb dX9_minutesOf_4 rfl (lv_at hl 1 rfl) ?_
    refine lv_bipush (v := (9 : Int32)) hx hb dX9_minutesOf_5 (by decide) ?_
    refine lv_imul hx hb dX9_minutesOf_7 ?_
    refine lv_iload_n hx hb dX9_minutesOf_8 rfl (lv_at hl 2 rfl) ?_
    refine lv_iadd hx hb dX9_minutesOf_9 ?_
    obtain ⟨g1, hf⟩ := gd_s hf
    refine va_iald hx hb hK hP 2 0 (f := sRo.2.2.1 11) a_Ro_11 rfl (vpb_in g1) dX9_minutesOf_10 ?_
    refine lv_topi (fun v2 ev2 => ?_)
    have hf := lz_s hf v2 ev2
    have e9 := Option.some.inj hf
    rw [hQ]
    exact W.iret (v := v2) hx hb hr (fun t ht hW => ⟨⟨v2, (), rfl, e9, trivial⟩, hS.F ht⟩) hS.2.2 dX9_minutesOf_11
  rw [hHe] at hgo
  exact hgo

def wz_X9_start : List Cond := .code yX9_start cX9_start 1 (some .int) :: wsL_law
abbrev r_X9_start : Room := { frames := 0, cells := 0, slots := 0, locals := 0 }
set_option maxHeartbeats 4000000 in
set_option maxRecDepth 100000 in
theorem c_X9_start (l : Launch) (D : va_G) (K : Nat → ClassId) (F : Nat) (hRo : Nat → Nat) (sRo : MS) (res : Int32) (hf : f_X9_start F sRo = some res) : Met l yX9_start wz_X9_start r_X9_start (va_Pc [.ref (hRo 99)] (PR D K (wRo K hRo sRo))) (va_Qi (fun r (_ : Unit) => r = res) BN nOne) 0 0 nOne := by
  refine Met.ofW (cc := cX9_start) (maxL := 1) (ret := (some .int)) (by decide) rfl ?_
  intro p e s m args below meth c s₁ B hml hv
  obtain ⟨hargs, hP, hK⟩ := hv
  have hx := B.exec
  have hb := B.bytes
  have hr := B.returns
  have hts := atoms_spec (ws := wz_X9_start) B.pre
  have htl : ∀ w ∈ wsL_law, w.before args s = true := fun w h => hts w (List.mem_cons_of_mem _ h)
  have hown : s.vm.findClass RX9 = some m.cls := findClass_of_methodNamed B.named
  have hlocks := B.notSynchronized
  have hS : va_S nOne s.heap s.heap [] := va_S.rf
  have iX9 : ∀ w ∈ wsX90, w ∈ wz_X9_start := fun w h => List.mem_cons_of_mem _ (inlX9 w h)
  suffices hgo : ∀ Q : State → Prop, Q = MQ below (va_Qi (fun r (_ : Unit) => r = res) BN nOne) args s 0 0 nOne → W p l e (headSpec wz_X9_start r_X9_start).room s m args below meth c s.heap [] 0 0 Q (entryFrame m args 1) from hgo _ rfl
  intro Q hQ
  have hen : entryFrame m args 1 = entryFrame m (([.ref (hRo 99)] : List Value).toArray) 1 := by rw [hargs]
  have hl := lv_entry ([.ref (hRo 99)]) (n := 1) (Nat.le_of_ble_eq_true rfl)
  rw [hen, lg_entry_eq]
  generalize (lg_sl ([.ref (hRo 99)]) ++ List.replicate (1 - (lg_sl ([.ref (hRo 99)])).length) Slot.unset).toArray = ls at hl ⊢
  have hl : lv_has ls 1 [(0, .ref (hRo 99))] := hl
  unfold f_X9_start at hf
  obtain ⟨H, hHe⟩ : ∃ z, z = s.heap := ⟨_, rfl⟩
  obtain ⟨locs, hLe⟩ : ∃ z : List Loc, z = [] := ⟨_, rfl⟩
  rw [← hLe]
  have hS : va_S nOne s.heap H locs := by rw [hHe, hLe]; exact hS
  have hP : va_P D vwCl (wRo K hRo sRo) H := by rw [hHe]; exact hP
  have hgo : W p l e (headSpec wz_X9_start r_X9_start).room s m args below meth c H locs 0 0 Q (F0 m 0 ls []) := by
    refine lv_aload_n hx hb dX9_start_0 rfl (lv_at hl 0 rfl) ?_
    refine va_get (D := D) (ci := 8) (v := .ref (hRo 15)) (C := RX9) (T := TX9) (N := 19) hx hb hts iX9 hown hK hP 0 o_Ro rfl 15 (by decide) (htl _ (mB3 _ (List.mem_of_getElem? (i := 9) rfl))) (fun _ h9 => h9) rfl dX9_start_1 ?_
    refine lv_iconst (v := (0 : Int32)) hx hb dX9_start_4 (by decide) ?_
    obtain ⟨g1, hf⟩ := gd_s hf
    refine va_iald hx hb hK hP 6 0 (f := sRo.2.2.1 15) a_Ro_15 rfl (vpb_in g1) dX9_start_5 ?_
    refine lv_topi (fun v2 ev2 => ?_)
    have hf := lz_s hf v2 ev2
    have e9 := Option.some.inj hf
    rw [hQ]
    exact W.iret (v := v2) hx hb hr (fun t ht hW => ⟨⟨v2, (), rfl, e9, trivial⟩, hS.F ht⟩) hS.2.2 dX9_start_6
  rw [hHe] at hgo
  exact hgo

def wz_X9_goal : List Cond := .code yX9_goal cX9_goal 1 (some .int) :: wsL_law
abbrev r_X9_goal : Room := { frames := 0, cells := 0, slots := 0, locals := 0 }
set_option maxHeartbeats 4000000 in
set_option maxRecDepth 100000 in
theorem c_X9_goal (l : Launch) (D : va_G) (K : Nat → ClassId) (F : Nat) (hRo : Nat → Nat) (sRo : MS) (res : Int32) (hf : f_X9_goal F sRo = some res) : Met l yX9_goal wz_X9_goal r_X9_goal (va_Pc [.ref (hRo 99)] (PR D K (wRo K hRo sRo))) (va_Qi (fun r (_ : Unit) => r = res) BN nOne) 0 0 nOne := by
  refine Met.ofW (cc := cX9_goal) (maxL := 1) (ret := (some .int)) (by decide) rfl ?_
  intro p e s m args below meth c s₁ B hml hv
  obtain ⟨hargs, hP, hK⟩ := hv
  have hx := B.exec
  have hb := B.bytes
  have hr := B.returns
  have hts := atoms_spec (ws := wz_X9_goal) B.pre
  have htl : ∀ w ∈ wsL_law, w.before args s = true := fun w h => hts w (List.mem_cons_of_mem _ h)
  have hown : s.vm.findClass RX9 = some m.cls := findClass_of_methodNamed B.named
  have hlocks := B.notSynchronized
  have hS : va_S nOne s.heap s.heap [] := va_S.rf
  have iX9 : ∀ w ∈ wsX90, w ∈ wz_X9_goal := fun w h => List.mem_cons_of_mem _ (inlX9 w h)
  suffices hgo : ∀ Q : State → Prop, Q = MQ below (va_Qi (fun r (_ : Unit) => r = res) BN nOne) args s 0 0 nOne → W p l e (headSpec wz_X9_goal r_X9_goal).room s m args below meth c s.heap [] 0 0 Q (entryFrame m args 1) from hgo _ rfl
  intro Q hQ
  have hen : entryFrame m args 1 = entryFrame m (([.ref (hRo 99)] : List Value).toArray) 1 := by rw [hargs]
  have hl := lv_entry ([.ref (hRo 99)]) (n := 1) (Nat.le_of_ble_eq_true rfl)
  rw [hen, lg_entry_eq]
  generalize (lg_sl ([.ref (hRo 99)]) ++ List.replicate (1 - (lg_sl ([.ref (hRo 99)])).length) Slot.unset).toArray = ls at hl ⊢
  have hl : lv_has ls 1 [(0, .ref (hRo 99))] := hl
  unfold f_X9_goal at hf
  obtain ⟨H, hHe⟩ : ∃ z, z = s.heap := ⟨_, rfl⟩
  obtain ⟨locs, hLe⟩ : ∃ z : List Loc, z = [] := ⟨_, rfl⟩
  rw [← hLe]
  have hS : va_S nOne s.heap H locs := by rw [hHe, hLe]; exact hS
  have hP : va_P D vwCl (wRo K hRo sRo) H := by rw [hHe]; exact hP
  have hgo : W p l e (headSpec wz_X9_goal r_X9_goal).room s m args below meth c H locs 0 0 Q (F0 m 0 ls []) := by
    refine lv_aload_n hx hb dX9_goal_0 rfl (lv_at hl 0 rfl) ?_
    refine va_get (D := D) (ci := 8) (v := .int (sRo.1 8)) (C := RX9) (T := TX9) (N := 19) hx hb hts iX9 hown hK hP 0 o_Ro rfl 8 (by decide) (htl _ (mB8 _ (List.mem_of_getElem? (i := 20) rfl))) (fun _ h9 => h9) rfl dX9_goal_1 ?_
    refine lv_if_le (tgt := 21) hx hb dX9_goal_4 (by decide) (fun c1 => ?_) (fun c1 => ?_)
    · have hf := it_t hf c1
      refine lv_aload_n hx hb dX9_goal_21 rfl (lv_at hl 0 rfl) ?_
      refine va_get (D := D) (ci := 8) (v := .ref (hRo 15)) (C := RX9) (T := TX9) (N := 19) hx hb hts iX9 hown hK hP 0 o_Ro rfl 15 (by decide) (htl _ (mB3 _ (List.mem_of_getElem? (i := 9) rfl))) (fun _ h9 => h9) rfl dX9_goal_22 ?_
      refine lv_iconst (v := (0 : Int32)) hx hb dX9_goal_25 (by decide) ?_
      obtain ⟨g2, hf⟩ := gd_s hf
      refine va_iald hx hb hK hP 6 0 (f := sRo.2.2.1 15) a_Ro_15 rfl (vpb_in g2) dX9_goal_26 ?_
      refine lv_topi (fun v3 ev3 => ?_)
      have hf := lz_s hf v3 ev3
      have e9 := Option.some.inj hf
      rw [hQ]
      exact W.iret (v := v3) hx hb hr (fun t ht hW => ⟨⟨v3, (), rfl, e9, trivial⟩, hS.F ht⟩) hS.2.2 dX9_goal_27
    · have hf := it_f hf c1
      refine lv_aload_n hx hb dX9_goal_7 rfl (lv_at hl 0 rfl) ?_
      refine va_get (D := D) (ci := 8) (v := .ref (hRo 15)) (C := RX9) (T := TX9) (N := 19) hx hb hts iX9 hown hK hP 0 o_Ro rfl 15 (by decide) (htl _ (mB3 _ (List.mem_of_getElem? (i := 9) rfl))) (fun _ h9 => h9) rfl dX9_goal_8 ?_
      refine lv_aload_n hx hb dX9_goal_11 rfl (lv_at hl 0 rfl) ?_
      refine va_get (D := D) (ci := 8) (v := .int (sRo.1 8)) (C := RX9) (T := TX9) (N := 19) hx hb hts iX9 hown hK hP 0 o_Ro rfl 8 (by decide) (htl _ (mB8 _ (List.mem_of_getElem? (i := 20) rfl))) (fun _ h9 => h9) rfl dX9_goal_12 ?_
      refine lv_iconst (v := (1 : Int32)) hx hb dX9_goal_15 (by decide) ?_
      refine lv_isub hx hb dX9_goal_16 ?_
      obtain ⟨g4, hf⟩ := gd_s hf
      refine va_iald hx hb hK hP 6 0 (f := sRo.2.2.1 15) a_Ro_15 rfl (vpb_in g4) dX9_goal_17 ?_
      refine lv_topi (fun v5 ev5 => ?_)
      have hf := lz_s hf v5 ev5
      refine lv_goto (tgt := 27) hx hb dX9_goal_18 (by decide) ?_
      have e9 := Option.some.inj hf
      rw [hQ]
      exact W.iret (v := v5) hx hb hr (fun t ht hW => ⟨⟨v5, (), rfl, e9, trivial⟩, hS.F ht⟩) hS.2.2 dX9_goal_27
  rw [hHe] at hgo
  exact hgo

def wz_X9_legPints : List Cond := .code yX9_legPints cX9_legPints 2 (some .int) :: wsL_law
abbrev r_X9_legPints : Room := { frames := 0, cells := 0, slots := 0, locals := 0 }
set_option maxHeartbeats 4000000 in
set_option maxRecDepth 100000 in
theorem c_X9_legPints (l : Launch) (D : va_G) (K : Nat → ClassId) (F : Nat) (hRo : Nat → Nat) (sRo : MS) (p1 : Int32) (res : Int32) (hf : f_X9_legPints F sRo p1 = some res) : Met l yX9_legPints wz_X9_legPints r_X9_legPints (va_Pc [.ref (hRo 99), .int p1] (PR D K (wRo K hRo sRo))) (va_Qi (fun r (_ : Unit) => r = res) BN nOne) 0 0 nOne := by
  refine Met.ofW (cc := cX9_legPints) (maxL := 2) (ret := (some .int)) (by decide) rfl ?_
  intro p e s m args below meth c s₁ B hml hv
  obtain ⟨hargs, hP, hK⟩ := hv
  have hx := B.exec
  have hb := B.bytes
  have hr := B.returns
  have hts := atoms_spec (ws := wz_X9_legPints) B.pre
  have htl : ∀ w ∈ wsL_law, w.before args s = true := fun w h => hts w (List.mem_cons_of_mem _ h)
  have hown : s.vm.findClass RX9 = some m.cls := findClass_of_methodNamed B.named
  have hlocks := B.notSynchronized
  have hS : va_S nOne s.heap s.heap [] := va_S.rf
  have iX9 : ∀ w ∈ wsX90, w ∈ wz_X9_legPints := fun w h => List.mem_cons_of_mem _ (inlX9 w h)
  suffices hgo : ∀ Q : State → Prop, Q = MQ below (va_Qi (fun r (_ : Unit) => r = res) BN nOne) args s 0 0 nOne → W p l e (headSpec wz_X9_legPints r_X9_legPints).room s m args below meth c s.heap [] 0 0 Q (entryFrame m args 2) from hgo _ rfl
  intro Q hQ
  have hen : entryFrame m args 2 = entryFrame m (([.ref (hRo 99), .int p1] : List Value).toArray) 2 := by rw [hargs]
  have hl := lv_entry ([.ref (hRo 99), .int p1]) (n := 2) (Nat.le_of_ble_eq_true rfl)
  rw [hen, lg_entry_eq]
  generalize (lg_sl ([.ref (hRo 99), .int p1]) ++ List.replicate (2 - (lg_sl ([.ref (hRo 99), .int p1])).length) Slot.unset).toArray = ls at hl ⊢
  have hl : lv_has ls 2 [(0, .ref (hRo 99)), (1, .int p1)] := hl
  unfold f_X9_legPints at hf
  obtain ⟨H, hHe⟩ : ∃ z, z = s.heap := ⟨_, rfl⟩
  obtain ⟨locs, hLe⟩ : ∃ z : List Loc, z = [] := ⟨_, rfl⟩
  rw [← hLe]
  have hS : va_S nOne s.heap H locs := by rw [hHe, hLe]; exact hS
  have hP : va_P D vwCl (wRo K hRo sRo) H := by rw [hHe]; exact hP
  have hgo : W p l e (headSpec wz_X9_legPints r_X9_legPints).room s m args below meth c H locs 0 0 Q (F0 m 0 ls []) := by
    refine lv_aload_n hx hb dX9_legPints_0 rfl (lv_at hl 0 rfl) ?_
    refine va_get (D := D) (ci := 8) (v := .ref (hRo 16)) (C := RX9) (T := TX9) (N := 19) hx hb hts iX9 hown hK hP 0 o_Ro rfl 16 (by decide) (htl _ (mB3 _ (List.mem_of_getElem? (i := 10) rfl))) (fun _ h9 => h9) rfl dX9_legPints_1 ?_
    refine lv_iload_n hx hb dX9_legPints_4 rfl (lv_at hl 1 rfl) ?_
    refine lv_iconst (v := (1 : Int32)) hx hb dX9_legPints_5 (by decide) ?_
    refine lv_iadd hx hb dX9_legPints_6 ?_
    obtain ⟨g1, hf⟩ := gd_s hf
    refine va_iald hx hb hK hP 7 0 (f := sRo.2.2.1 16) a_Ro_16 rfl (vpb_in g1) dX9_legPints_7 ?_
    refine lv_topi (fun v2 ev2 => ?_)
    have hf := lz_s hf v2 ev2
    refine lv_aload_n hx hb dX9_legPints_8 rfl (lv_at hl 0 rfl) ?_
    refine va_get (D := D) (ci := 8) (v := .ref (hRo 16)) (C := RX9) (T := TX9) (N := 19) hx hb hts iX9 hown hK hP 0 o_Ro rfl 16 (by decide) (htl _ (mB3 _ (List.mem_of_getElem? (i := 10) rfl))) (fun _ h9 => h9) rfl dX9_legPints_9 ?_
    refine lv_iload_n hx hb dX9_legPints_12 rfl (lv_at hl 1 rfl) ?_
    obtain ⟨g3, hf⟩ := gd_s hf
    refine va_iald hx hb hK hP 7 0 (f := sRo.2.2.1 16) a_Ro_16 rfl (vpb_in g3) dX9_legPints_13 ?_
    refine lv_topi (fun v4 ev4 => ?_)
    have hf := lz_s hf v4 ev4
    refine lv_isub hx hb dX9_legPints_14 ?_
    have e9 := Option.some.inj hf
    rw [hQ]
    exact W.iret (v := (v2 - v4)) hx hb hr (fun t ht hW => ⟨⟨(v2 - v4), (), rfl, e9, trivial⟩, hS.F ht⟩) hS.2.2 dX9_legPints_15
  rw [hHe] at hgo
  exact hgo

theorem gcV_X9_minutesOf {T0 : Cond} {own : String} {i : Nat} (h : Cond.methodLink own i yX9_minutesOf ∈ wsL_law) : GoodIn (T0 :: wsL_law) (wsV own i RX9 yX9_minutesOf wz_X9_minutesOf) := gV h (mB24 _ (List.mem_of_getElem? (i := 23) rfl)) (mB25 _ (List.mem_of_getElem? (i := 0) rfl)) (mB1 _ (List.mem_of_getElem? (i := 17) rfl)) (mB25 _ (List.mem_of_getElem? (i := 1) rfl))
theorem hdV_X9_minutesOf : yX9_minutesOf.cls = RX9 ∧ yX9_minutesOf.cls ≠ "java/lang/invoke/MethodHandle" ∧ yX9_minutesOf.cls ≠ "java/lang/invoke/VarHandle" ∧ (parseMethodDescriptor yX9_minutesOf.desc).map (fun d => d.parameters.length) = some 2 := by decide +kernel
def wz_X9_legMinutes : List Cond := .code yX9_legMinutes cX9_legMinutes 2 (some .int) :: wsL_law
abbrev r_X9_legMinutes : Room := { frames := 1, cells := 0, slots := 0, locals := 22 }
set_option maxHeartbeats 4000000 in
set_option maxRecDepth 100000 in
theorem c_X9_legMinutes (l : Launch) (D : va_G) (K : Nat → ClassId) (F : Nat) (hRo : Nat → Nat) (sRo : MS) (p1 : Int32) (res : Int32) (hf : f_X9_legMinutes F sRo p1 = some res) : Met l yX9_legMinutes wz_X9_legMinutes r_X9_legMinutes (va_Pc [.ref (hRo 99), .int p1] (PR D K (wRo K hRo sRo))) (va_Qi (fun r (_ : Unit) => r = res) BN nOne) 0 0 nOne := by
  refine Met.ofW (cc := cX9_legMinutes) (maxL := 2) (ret := (some .int)) (by decide) rfl ?_
  intro p e s m args below meth c s₁ B hml hv
  obtain ⟨hargs, hP, hK⟩ := hv
  have hx := B.exec
  have hb := B.bytes
  have hr := B.returns
  have hts := atoms_spec (ws := wz_X9_legMinutes) B.pre
  have htl : ∀ w ∈ wsL_law, w.before args s = true := fun w h => hts w (List.mem_cons_of_mem _ h)
  have hown : s.vm.findClass RX9 = some m.cls := findClass_of_methodNamed B.named
  have hlocks := B.notSynchronized
  have hS : va_S nOne s.heap s.heap [] := va_S.rf
  have iX9 : ∀ w ∈ wsX90, w ∈ wz_X9_legMinutes := fun w h => List.mem_cons_of_mem _ (inlX9 w h)
  suffices hgo : ∀ Q : State → Prop, Q = MQ below (va_Qi (fun r (_ : Unit) => r = res) BN nOne) args s 0 0 nOne → W p l e (headSpec wz_X9_legMinutes r_X9_legMinutes).room s m args below meth c s.heap [] 0 0 Q (entryFrame m args 2) from hgo _ rfl
  intro Q hQ
  have hen : entryFrame m args 2 = entryFrame m (([.ref (hRo 99), .int p1] : List Value).toArray) 2 := by rw [hargs]
  have hl := lv_entry ([.ref (hRo 99), .int p1]) (n := 2) (Nat.le_of_ble_eq_true rfl)
  rw [hen, lg_entry_eq]
  generalize (lg_sl ([.ref (hRo 99), .int p1]) ++ List.replicate (2 - (lg_sl ([.ref (hRo 99), .int p1])).length) Slot.unset).toArray = ls at hl ⊢
  have hl : lv_has ls 2 [(0, .ref (hRo 99)), (1, .int p1)] := hl
  unfold f_X9_legMinutes at hf
  obtain ⟨H, hHe⟩ : ∃ z, z = s.heap := ⟨_, rfl⟩
  obtain ⟨locs, hLe⟩ : ∃ z : List Loc, z = [] := ⟨_, rfl⟩
  rw [← hLe]
  have hS : va_S nOne s.heap H locs := by rw [hHe, hLe]; exact hS
  have hP : va_P D vwCl (wRo K hRo sRo) H := by rw [hHe]; exact hP
  have hgo : W p l e (headSpec wz_X9_legMinutes r_X9_legMinutes).room s m args below meth c H locs 0 0 Q (F0 m 0 ls []) := by
    refine lv_aload_n hx hb dX9_legMinutes_0 rfl (lv_at hl 0 rfl) ?_
    refine lv_aload_n hx hb dX9_legMinutes_1 rfl (lv_at hl 0 rfl) ?_
    refine va_get (D := D) (ci := 8) (v := .ref (hRo 15)) (C := RX9) (T := TX9) (N := 19) hx hb hts iX9 hown hK hP 0 o_Ro rfl 15 (by decide) (htl _ (mB3 _ (List.mem_of_getElem? (i := 9) rfl))) (fun _ h9 => h9) rfl dX9_legMinutes_2 ?_
    refine lv_iload_n hx hb dX9_legMinutes_5 rfl (lv_at hl 1 rfl) ?_
    obtain ⟨g1, hf⟩ := gd_s hf
    refine va_iald hx hb hK hP 6 0 (f := sRo.2.2.1 15) a_Ro_15 rfl (vpb_in g1) dX9_legMinutes_6 ?_
    refine lv_topi (fun v2 ev2 => ?_)
    have hf := lz_s hf v2 ev2
    refine lv_aload_n hx hb dX9_legMinutes_7 rfl (lv_at hl 0 rfl) ?_
    refine va_get (D := D) (ci := 8) (v := .ref (hRo 15)) (C := RX9) (T := TX9) (N := 19) hx hb hts iX9 hown hK hP 0 o_Ro rfl 15 (by decide) (htl _ (mB3 _ (List.mem_of_getElem? (i := 9) rfl))) (fun _ h9 => h9) rfl dX9_legMinutes_8 ?_
    refine lv_iload_n hx hb dX9_legMinutes_11 rfl (lv_at hl 1 rfl) ?_
    refine lv_iconst (v := (1 : Int32)) hx hb dX9_legMinutes_12 (by decide) ?_
    refine lv_iadd hx hb dX9_legMinutes_13 ?_
    obtain ⟨g3, hf⟩ := gd_s hf
    refine va_iald hx hb hK hP 6 0 (f := sRo.2.2.1 15) a_Ro_15 rfl (vpb_in g3) dX9_legMinutes_14 ?_
    refine lv_topi (fun v4 ev4 => ?_)
    have hf := lz_s hf v4 ev4
    obtain ⟨o5, go5, hf⟩ := bd_s hf
    refine ro_Vi (As := [.int v2, .int v4]) (rest := []) ⟨hx, hb, hml, hown, hts⟩ (c_X9_minutesOf l D K F hRo sRo v2 v4 o5 go5) (cwV 2 hts (gcV_X9_minutesOf (mB36 _ (List.mem_of_getElem? (i := 3) rfl))) rfl rfl rfl hdV_X9_minutesOf ⟨Nat.le_of_ble_eq_true rfl, Nat.le_of_ble_eq_true rfl⟩) hK hP hS hP (va_recv hK hP (ci := 8) (q0 := 0) rfl o_Ro) rfl hl.1 rfl (Nat.le_of_ble_eq_true rfl) dX9_legMinutes_15 ⟨Nat.zero_le _, Nat.zero_le _⟩ (fun H locs hP hS => ?_)
    have e9 := Option.some.inj hf
    rw [hQ]
    exact W.iret (v := o5) hx hb hr (fun t ht hW => ⟨⟨o5, (), rfl, e9, trivial⟩, hS.F ht⟩) hS.2.2 dX9_legMinutes_18
  rw [hHe] at hgo
  exact hgo

def wz_X9_legsPints : List Cond := .code yX9_legsPints cX9_legsPints 3 (some .int) :: wsL_law
abbrev r_X9_legsPints : Room := { frames := 0, cells := 0, slots := 0, locals := 0 }
set_option maxHeartbeats 4000000 in
set_option maxRecDepth 100000 in
theorem c_X9_legsPints (l : Launch) (D : va_G) (K : Nat → ClassId) (F : Nat) (hRo : Nat → Nat) (sRo : MS) (p1 : Int32) (p2 : Int32) (res : Int32) (hf : f_X9_legsPints F sRo p1 p2 = some res) : Met l yX9_legsPints wz_X9_legsPints r_X9_legsPints (va_Pc [.ref (hRo 99), .int p1, .int p2] (PR D K (wRo K hRo sRo))) (va_Qi (fun r (_ : Unit) => r = res) BN nOne) 0 0 nOne := by
  refine Met.ofW (cc := cX9_legsPints) (maxL := 3) (ret := (some .int)) (by decide) rfl ?_
  intro p e s m args below meth c s₁ B hml hv
  obtain ⟨hargs, hP, hK⟩ := hv
  have hx := B.exec
  have hb := B.bytes
  have hr := B.returns
  have hts := atoms_spec (ws := wz_X9_legsPints) B.pre
  have htl : ∀ w ∈ wsL_law, w.before args s = true := fun w h => hts w (List.mem_cons_of_mem _ h)
  have hown : s.vm.findClass RX9 = some m.cls := findClass_of_methodNamed B.named
  have hlocks := B.notSynchronized
  have hS : va_S nOne s.heap s.heap [] := va_S.rf
  have iX9 : ∀ w ∈ wsX90, w ∈ wz_X9_legsPints := fun w h => List.mem_cons_of_mem _ (inlX9 w h)
  suffices hgo : ∀ Q : State → Prop, Q = MQ below (va_Qi (fun r (_ : Unit) => r = res) BN nOne) args s 0 0 nOne → W p l e (headSpec wz_X9_legsPints r_X9_legsPints).room s m args below meth c s.heap [] 0 0 Q (entryFrame m args 3) from hgo _ rfl
  intro Q hQ
  have hen : entryFrame m args 3 = entryFrame m (([.ref (hRo 99), .int p1, .int p2] : List Value).toArray) 3 := by rw [hargs]
  have hl := lv_entry ([.ref (hRo 99), .int p1, .int p2]) (n := 3) (Nat.le_of_ble_eq_true rfl)
  rw [hen, lg_entry_eq]
  generalize (lg_sl ([.ref (hRo 99), .int p1, .int p2]) ++ List.replicate (3 - (lg_sl ([.ref (hRo 99), .int p1, .int p2])).length) Slot.unset).toArray = ls at hl ⊢
  have hl : lv_has ls 3 [(0, .ref (hRo 99)), (1, .int p1), (2, .int p2)] := hl
  unfold f_X9_legsPints at hf
  obtain ⟨H, hHe⟩ : ∃ z, z = s.heap := ⟨_, rfl⟩
  obtain ⟨locs, hLe⟩ : ∃ z : List Loc, z = [] := ⟨_, rfl⟩
  rw [← hLe]
  have hS : va_S nOne s.heap H locs := by rw [hHe, hLe]; exact hS
  have hP : va_P D vwCl (wRo K hRo sRo) H := by rw [hHe]; exact hP
  have hgo : W p l e (headSpec wz_X9_legsPints r_X9_legsPints).room s m args below meth c H locs 0 0 Q (F0 m 0 ls []) := by
    refine lv_aload_n hx hb dX9_legsPints_0 rfl (lv_at hl 0 rfl) ?_
    refine va_get (D := D) (ci := 8) (v := .ref (hRo 16)) (C := RX9) (T := TX9) (N := 19) hx hb hts iX9 hown hK hP 0 o_Ro rfl 16 (by decide) (htl _ (mB3 _ (List.mem_of_getElem? (i := 10) rfl))) (fun _ h9 => h9) rfl dX9_legsPints_1 ?_
    refine lv_iload_n hx hb dX9_legsPints_4 rfl (lv_at hl 2 rfl) ?_
    obtain ⟨g1, hf⟩ := gd_s hf
    refine va_iald hx hb hK hP 7 0 (f := sRo.2.2.1 16) a_Ro_16 rfl (vpb_in g1) dX9_legsPints_5 ?_
    refine lv_topi (fun v2 ev2 => ?_)
    have hf := lz_s hf v2 ev2
    refine lv_aload_n hx hb dX9_legsPints_6 rfl (lv_at hl 0 rfl) ?_
    refine va_get (D := D) (ci := 8) (v := .ref (hRo 16)) (C := RX9) (T := TX9) (N := 19) hx hb hts iX9 hown hK hP 0 o_Ro rfl 16 (by decide) (htl _ (mB3 _ (List.mem_of_getElem? (i := 10) rfl))) (fun _ h9 => h9) rfl dX9_legsPints_7 ?_
    refine lv_iload_n hx hb dX9_legsPints_10 rfl (lv_at hl 1 rfl) ?_
    obtain ⟨g3, hf⟩ := gd_s hf
    refine va_iald hx hb hK hP 7 0 (f := sRo.2.2.1 16) a_Ro_16 rfl (vpb_in g3) dX9_legsPints_11 ?_
    refine lv_topi (fun v4 ev4 => ?_)
    have hf := lz_s hf v4 ev4
    refine lv_isub hx hb dX9_legsPints_12 ?_
    have e9 := Option.some.inj hf
    rw [hQ]
    exact W.iret (v := (v2 - v4)) hx hb hr (fun t ht hW => ⟨⟨(v2 - v4), (), rfl, e9, trivial⟩, hS.F ht⟩) hS.2.2 dX9_legsPints_13
  rw [hHe] at hgo
  exact hgo

def wz_X9_lastReached : List Cond := .code yX9_lastReached cX9_lastReached 5 (some .int) :: wsL_law
abbrev r_X9_lastReached : Room := { frames := 0, cells := 0, slots := 0, locals := 0 }
set_option maxHeartbeats 4000000 in
set_option maxRecDepth 100000 in
theorem c_X9_lastReached (l : Launch) (D : va_G) (K : Nat → ClassId) (F : Nat) (hRo : Nat → Nat) (sRo : MS) (p1 : Int32) (p2 : Int32) (res : Int32) (hf : f_X9_lastReached F sRo p1 p2 = some res) : Met l yX9_lastReached wz_X9_lastReached r_X9_lastReached (va_Pc [.ref (hRo 99), .int p1, .int p2] (PR D K (wRo K hRo sRo))) (va_Qi (fun r (_ : Unit) => r = res) BN nOne) 0 0 nOne := by
  refine Met.ofW (cc := cX9_lastReached) (maxL := 5) (ret := (some .int)) (by decide) rfl ?_
  intro p e s m args below meth c s₁ B hml hv
  obtain ⟨hargs, hP, hK⟩ := hv
  have hx := B.exec
  have hb := B.bytes
  have hr := B.returns
  have hts := atoms_spec (ws := wz_X9_lastReached) B.pre
  have htl : ∀ w ∈ wsL_law, w.before args s = true := fun w h => hts w (List.mem_cons_of_mem _ h)
  have hown : s.vm.findClass RX9 = some m.cls := findClass_of_methodNamed B.named
  have hlocks := B.notSynchronized
  have hS : va_S nOne s.heap s.heap [] := va_S.rf
  have iX9 : ∀ w ∈ wsX90, w ∈ wz_X9_lastReached := fun w h => List.mem_cons_of_mem _ (inlX9 w h)
  suffices hgo : ∀ Q : State → Prop, Q = MQ below (va_Qi (fun r (_ : Unit) => r = res) BN nOne) args s 0 0 nOne → W p l e (headSpec wz_X9_lastReached r_X9_lastReached).room s m args below meth c s.heap [] 0 0 Q (entryFrame m args 5) from hgo _ rfl
  intro Q hQ
  have w35 : ∀ (k5 : Int32 → Int32 → Option Int32), (∀ (x3 : Int32), ∀ (x4 : Int32), ∀ (H : Heap) (locs : List Loc) (ls : Array Slot), k5 x3 x4 = some res → va_P D vwCl (wRo K hRo sRo) H → va_S nOne s.heap H locs → lv_has ls 5 [(0, .ref (hRo 99)), (1, .int p1), (2, .int p2), (3, .int x3), (4, .int x4)] → W p l e (headSpec wz_X9_lastReached r_X9_lastReached).room s m args below meth c H locs 0 0 Q (F0 m 5 ls [])) → ∀ (x3 : Int32), ∀ (x4 : Int32), ∀ (H : Heap) (locs : List Loc) (ls : Array Slot), f_X9_lastReached_35 F sRo p1 p2 k5 x3 x4 = some res → va_P D vwCl (wRo K hRo sRo) H → va_S nOne s.heap H locs → lv_has ls 5 [(0, .ref (hRo 99)), (1, .int p1), (2, .int p2), (3, .int x3), (4, .int x4)] → W p l e (headSpec wz_X9_lastReached r_X9_lastReached).room s m args below meth c H locs 0 0 Q (F0 m 35 ls []) := by
    intro k5 hk5 x3 x4 H locs ls hf hP hS hl
    unfold f_X9_lastReached_35 at hf
    obtain ⟨v7, ev7⟩ : ∃ z : Int32, z = x4 + (1 : Int32) := ⟨_, rfl⟩
    have hf := lz_s hf v7 ev7
    refine lv_iinc (v := v7) (lv' := [(4, .int v7), (0, .ref (hRo 99)), (1, .int p1), (2, .int p2), (3, .int x3)]) hx hb dX9_lastReached_35 hl (k := 4) rfl (by rw [ev7]; rfl) (by decide) rfl (fun ls hl => ?_)
    refine lv_goto (tgt := 5) hx hb dX9_lastReached_38 (by decide) ?_
    exact hk5 x3 v7 H locs ls hf hP hS (lv_sub hl [1, 2, 3, 4, 0] rfl)
  have w5 : ∀ (n : Nat), ∀ (x3 : Int32), ∀ (x4 : Int32), ∀ (H : Heap) (locs : List Loc) (ls : Array Slot), f_X9_lastReached_5 F sRo p1 p2 n x3 x4 = some res → va_P D vwCl (wRo K hRo sRo) H → va_S nOne s.heap H locs → lv_has ls 5 [(0, .ref (hRo 99)), (1, .int p1), (2, .int p2), (3, .int x3), (4, .int x4)] → W p l e (headSpec wz_X9_lastReached r_X9_lastReached).room s m args below meth c H locs 0 0 Q (F0 m 5 ls []) := by
    intro n
    induction n with
    | zero =>
      intro x3 x4 H locs ls hf
      exact absurd (show none = some res from hf) (fun h => nomatch h)
    | succ n ih =>
      intro x3 x4 H locs ls hf hP hS hl
      rw [f_X9_lastReached_5] at hf
      refine lv_iload hx hb dX9_lastReached_5 (lv_at hl 4 rfl) ?_
      refine lv_aload_n hx hb dX9_lastReached_7 rfl (lv_at hl 0 rfl) ?_
      refine va_get (D := D) (ci := 8) (v := .int (sRo.1 8)) (C := RX9) (T := TX9) (N := 19) hx hb hts iX9 hown hK hP 0 o_Ro rfl 8 (by decide) (htl _ (mB8 _ (List.mem_of_getElem? (i := 20) rfl))) (fun _ h9 => h9) rfl dX9_lastReached_8 ?_
      refine lv_icmp_ge (tgt := 41) hx hb dX9_lastReached_11 (by decide) (fun c1 => ?_) (fun c1 => ?_)
      · have hf := it_t hf c1
        refine lv_iload_n hx hb dX9_lastReached_41 rfl (lv_at hl 3 rfl) ?_
        have e9 := Option.some.inj hf
        rw [hQ]
        exact W.iret (v := x3) hx hb hr (fun t ht hW => ⟨⟨x3, (), rfl, e9, trivial⟩, hS.F ht⟩) hS.2.2 dX9_lastReached_42
      · have hf := it_f hf c1
        refine lv_aload_n hx hb dX9_lastReached_14 rfl (lv_at hl 0 rfl) ?_
        refine va_get (D := D) (ci := 8) (v := .ref (hRo 16)) (C := RX9) (T := TX9) (N := 19) hx hb hts iX9 hown hK hP 0 o_Ro rfl 16 (by decide) (htl _ (mB3 _ (List.mem_of_getElem? (i := 10) rfl))) (fun _ h9 => h9) rfl dX9_lastReached_15 ?_
        refine lv_iload hx hb dX9_lastReached_18 (lv_at hl 4 rfl) ?_
        obtain ⟨g2, hf⟩ := gd_s hf
        refine va_iald hx hb hK hP 7 0 (f := sRo.2.2.1 16) a_Ro_16 rfl (vpb_in g2) dX9_lastReached_20 ?_
        refine lv_topi (fun v3 ev3 => ?_)
        have hf := lz_s hf v3 ev3
        refine lv_aload_n hx hb dX9_lastReached_21 rfl (lv_at hl 0 rfl) ?_
        refine va_get (D := D) (ci := 8) (v := .ref (hRo 16)) (C := RX9) (T := TX9) (N := 19) hx hb hts iX9 hown hK hP 0 o_Ro rfl 16 (by decide) (htl _ (mB3 _ (List.mem_of_getElem? (i := 10) rfl))) (fun _ h9 => h9) rfl dX9_lastReached_22 ?_
        refine lv_iload_n hx hb dX9_lastReached_25 rfl (lv_at hl 1 rfl) ?_
        obtain ⟨g4, hf⟩ := gd_s hf
        refine va_iald hx hb hK hP 7 0 (f := sRo.2.2.1 16) a_Ro_16 rfl (vpb_in g4) dX9_lastReached_26 ?_
        refine lv_topi (fun v5 ev5 => ?_)
        have hf := lz_s hf v5 ev5
        refine lv_isub hx hb dX9_lastReached_27 ?_
        refine lv_iload_n hx hb dX9_lastReached_28 rfl (lv_at hl 2 rfl) ?_
        refine lv_icmp_gt (tgt := 35) hx hb dX9_lastReached_29 (by decide) (fun c6 => ?_) (fun c6 => ?_)
        · have hf := it_t hf c6
          exact w35 (f_X9_lastReached_5 F sRo p1 p2 n) ih x3 x4 H locs ls hf hP hS (lv_sub hl [0, 1, 2, 3, 4] rfl)
        · have hf := it_f hf c6
          refine lv_iload hx hb dX9_lastReached_32 (lv_at hl 4 rfl) ?_
          refine lv_istore_n (lv' := [(3, .int x4), (0, .ref (hRo 99)), (1, .int p1), (2, .int p2), (4, .int x4)]) hx hb dX9_lastReached_34 rfl hl (by decide) rfl (fun ls hl => ?_)
          exact w35 (f_X9_lastReached_5 F sRo p1 p2 n) ih x4 x4 H locs ls hf hP hS (lv_sub hl [1, 2, 3, 0, 4] rfl)
  have hen : entryFrame m args 5 = entryFrame m (([.ref (hRo 99), .int p1, .int p2] : List Value).toArray) 5 := by rw [hargs]
  have hl := lv_entry ([.ref (hRo 99), .int p1, .int p2]) (n := 5) (Nat.le_of_ble_eq_true rfl)
  rw [hen, lg_entry_eq]
  generalize (lg_sl ([.ref (hRo 99), .int p1, .int p2]) ++ List.replicate (5 - (lg_sl ([.ref (hRo 99), .int p1, .int p2])).length) Slot.unset).toArray = ls at hl ⊢
  have hl : lv_has ls 5 [(0, .ref (hRo 99)), (1, .int p1), (2, .int p2)] := hl
  unfold f_X9_lastReached at hf
  obtain ⟨H, hHe⟩ : ∃ z, z = s.heap := ⟨_, rfl⟩
  obtain ⟨locs, hLe⟩ : ∃ z : List Loc, z = [] := ⟨_, rfl⟩
  rw [← hLe]
  have hS : va_S nOne s.heap H locs := by rw [hHe, hLe]; exact hS
  have hP : va_P D vwCl (wRo K hRo sRo) H := by rw [hHe]; exact hP
  have hgo : W p l e (headSpec wz_X9_lastReached r_X9_lastReached).room s m args below meth c H locs 0 0 Q (F0 m 0 ls []) := by
    refine lv_iload_n hx hb dX9_lastReached_0 rfl (lv_at hl 1 rfl) ?_
    refine lv_istore_n (lv' := [(3, .int p1), (0, .ref (hRo 99)), (1, .int p1), (2, .int p2)]) hx hb dX9_lastReached_1 rfl hl (by decide) rfl (fun ls hl => ?_)
    refine lv_iload_n hx hb dX9_lastReached_2 rfl (lv_at hl 2 rfl) ?_
    refine lv_istore (lv' := [(4, .int p1), (3, .int p1), (0, .ref (hRo 99)), (1, .int p1), (2, .int p2)]) hx hb dX9_lastReached_3 hl (by decide) rfl (fun ls hl => ?_)
    exact w5 F p1 p1 H locs ls hf hP hS (lv_sub hl [2, 3, 4, 1, 0] rfl)
  rw [hHe] at hgo
  exact hgo

def wz_X9_hasPumpAt : List Cond := .code yX9_hasPumpAt cX9_hasPumpAt 2 (some .boolean) :: wsL_law
abbrev r_X9_hasPumpAt : Room := { frames := 0, cells := 0, slots := 0, locals := 0 }
set_option maxHeartbeats 4000000 in
set_option maxRecDepth 100000 in
theorem c_X9_hasPumpAt (l : Launch) (D : va_G) (K : Nat → ClassId) (F : Nat) (hRo : Nat → Nat) (sRo : MS) (p1 : Int32) (res : Int32) (hf : f_X9_hasPumpAt F sRo p1 = some res) : Met l yX9_hasPumpAt wz_X9_hasPumpAt r_X9_hasPumpAt (va_Pc [.ref (hRo 99), .int p1] (PR D K (wRo K hRo sRo))) (va_Qi (fun r (_ : Unit) => r = res) BN nOne) 0 0 nOne := by
  refine Met.ofW (cc := cX9_hasPumpAt) (maxL := 2) (ret := (some .boolean)) (by decide) rfl ?_
  intro p e s m args below meth c s₁ B hml hv
  obtain ⟨hargs, hP, hK⟩ := hv
  have hx := B.exec
  have hb := B.bytes
  have hr := B.returns
  have hts := atoms_spec (ws := wz_X9_hasPumpAt) B.pre
  have htl : ∀ w ∈ wsL_law, w.before args s = true := fun w h => hts w (List.mem_cons_of_mem _ h)
  have hown : s.vm.findClass RX9 = some m.cls := findClass_of_methodNamed B.named
  have hlocks := B.notSynchronized
  have hS : va_S nOne s.heap s.heap [] := va_S.rf
  have iX9 : ∀ w ∈ wsX90, w ∈ wz_X9_hasPumpAt := fun w h => List.mem_cons_of_mem _ (inlX9 w h)
  suffices hgo : ∀ Q : State → Prop, Q = MQ below (va_Qi (fun r (_ : Unit) => r = res) BN nOne) args s 0 0 nOne → W p l e (headSpec wz_X9_hasPumpAt r_X9_hasPumpAt).room s m args below meth c s.heap [] 0 0 Q (entryFrame m args 2) from hgo _ rfl
  intro Q hQ
  have hen : entryFrame m args 2 = entryFrame m (([.ref (hRo 99), .int p1] : List Value).toArray) 2 := by rw [hargs]
  have hl := lv_entry ([.ref (hRo 99), .int p1]) (n := 2) (Nat.le_of_ble_eq_true rfl)
  rw [hen, lg_entry_eq]
  generalize (lg_sl ([.ref (hRo 99), .int p1]) ++ List.replicate (2 - (lg_sl ([.ref (hRo 99), .int p1])).length) Slot.unset).toArray = ls at hl ⊢
  have hl : lv_has ls 2 [(0, .ref (hRo 99)), (1, .int p1)] := hl
  unfold f_X9_hasPumpAt at hf
  obtain ⟨H, hHe⟩ : ∃ z, z = s.heap := ⟨_, rfl⟩
  obtain ⟨locs, hLe⟩ : ∃ z : List Loc, z = [] := ⟨_, rfl⟩
  rw [← hLe]
  have hS : va_S nOne s.heap H locs := by rw [hHe, hLe]; exact hS
  have hP : va_P D vwCl (wRo K hRo sRo) H := by rw [hHe]; exact hP
  have hgo : W p l e (headSpec wz_X9_hasPumpAt r_X9_hasPumpAt).room s m args below meth c H locs 0 0 Q (F0 m 0 ls []) := by
    refine lv_aload_n hx hb dX9_hasPumpAt_0 rfl (lv_at hl 0 rfl) ?_
    refine va_get (D := D) (ci := 8) (v := .ref (hRo 12)) (C := RX9) (T := TX9) (N := 19) hx hb hts iX9 hown hK hP 0 o_Ro rfl 12 (by decide) (htl _ (mB3 _ (List.mem_of_getElem? (i := 6) rfl))) (fun _ h9 => h9) rfl dX9_hasPumpAt_1 ?_
    refine lv_aload_n hx hb dX9_hasPumpAt_4 rfl (lv_at hl 0 rfl) ?_
    refine va_get (D := D) (ci := 8) (v := .ref (hRo 15)) (C := RX9) (T := TX9) (N := 19) hx hb hts iX9 hown hK hP 0 o_Ro rfl 15 (by decide) (htl _ (mB3 _ (List.mem_of_getElem? (i := 9) rfl))) (fun _ h9 => h9) rfl dX9_hasPumpAt_5 ?_
    refine lv_iload_n hx hb dX9_hasPumpAt_8 rfl (lv_at hl 1 rfl) ?_
    obtain ⟨g1, hf⟩ := gd_s hf
    refine va_iald hx hb hK hP 6 0 (f := sRo.2.2.1 15) a_Ro_15 rfl (vpb_in g1) dX9_hasPumpAt_9 ?_
    refine lv_topi (fun v2 ev2 => ?_)
    have hf := lz_s hf v2 ev2
    obtain ⟨g3, hf⟩ := gd_s hf
    refine va_iald hx hb hK hP 3 0 (f := sRo.2.2.1 12) a_Ro_12 rfl (vpb_in g3) dX9_hasPumpAt_10 ?_
    refine lv_topi (fun v4 ev4 => ?_)
    have hf := lz_s hf v4 ev4
    refine lv_if_le (tgt := 18) hx hb dX9_hasPumpAt_11 (by decide) (fun c5 => ?_) (fun c5 => ?_)
    · have hf := it_t hf c5
      refine lv_iconst (v := (0 : Int32)) hx hb dX9_hasPumpAt_18 (by decide) ?_
      have e9 := Option.some.inj hf
      rw [hQ]
      exact W.zret (v := (0 : Int32)) hx hb hr rfl (fun t ht hW => ⟨⟨(0 : Int32), (), rfl, e9, trivial⟩, hS.F ht⟩) hS.2.2 dX9_hasPumpAt_19
    · have hf := it_f hf c5
      refine lv_iconst (v := (1 : Int32)) hx hb dX9_hasPumpAt_14 (by decide) ?_
      refine lv_goto (tgt := 19) hx hb dX9_hasPumpAt_15 (by decide) ?_
      have e9 := Option.some.inj hf
      rw [hQ]
      exact W.zret (v := (1 : Int32)) hx hb hr rfl (fun t ht hW => ⟨⟨(1 : Int32), (), rfl, e9, trivial⟩, hS.F ht⟩) hS.2.2 dX9_hasPumpAt_19
  rw [hHe] at hgo
  exact hgo

def wz_X9_priceAt : List Cond := .code yX9_priceAt cX9_priceAt 3 (some .int) :: wsL_law
abbrev r_X9_priceAt : Room := { frames := 0, cells := 0, slots := 0, locals := 0 }
set_option maxHeartbeats 4000000 in
set_option maxRecDepth 100000 in
theorem c_X9_priceAt (l : Launch) (D : va_G) (K : Nat → ClassId) (F : Nat) (hRo : Nat → Nat) (sRo : MS) (p1 : Int32) (p2 : Int32) (res : Int32) (hf : f_X9_priceAt F sRo p1 p2 = some res) : Met l yX9_priceAt wz_X9_priceAt r_X9_priceAt (va_Pc [.ref (hRo 99), .int p1, .int p2] (PR D K (wRo K hRo sRo))) (va_Qi (fun r (_ : Unit) => r = res) BN nOne) 0 0 nOne := by
  refine Met.ofW (cc := cX9_priceAt) (maxL := 3) (ret := (some .int)) (by decide) rfl ?_
  intro p e s m args below meth c s₁ B hml hv
  obtain ⟨hargs, hP, hK⟩ := hv
  have hx := B.exec
  have hb := B.bytes
  have hr := B.returns
  have hts := atoms_spec (ws := wz_X9_priceAt) B.pre
  have htl : ∀ w ∈ wsL_law, w.before args s = true := fun w h => hts w (List.mem_cons_of_mem _ h)
  have hown : s.vm.findClass RX9 = some m.cls := findClass_of_methodNamed B.named
  have hlocks := B.notSynchronized
  have hS : va_S nOne s.heap s.heap [] := va_S.rf
  have iX9 : ∀ w ∈ wsX90, w ∈ wz_X9_priceAt := fun w h => List.mem_cons_of_mem _ (inlX9 w h)
  suffices hgo : ∀ Q : State → Prop, Q = MQ below (va_Qi (fun r (_ : Unit) => r = res) BN nOne) args s 0 0 nOne → W p l e (headSpec wz_X9_priceAt r_X9_priceAt).room s m args below meth c s.heap [] 0 0 Q (entryFrame m args 3) from hgo _ rfl
  intro Q hQ
  have hen : entryFrame m args 3 = entryFrame m (([.ref (hRo 99), .int p1, .int p2] : List Value).toArray) 3 := by rw [hargs]
  have hl := lv_entry ([.ref (hRo 99), .int p1, .int p2]) (n := 3) (Nat.le_of_ble_eq_true rfl)
  rw [hen, lg_entry_eq]
  generalize (lg_sl ([.ref (hRo 99), .int p1, .int p2]) ++ List.replicate (3 - (lg_sl ([.ref (hRo 99), .int p1, .int p2])).length) Slot.unset).toArray = ls at hl ⊢
  have hl : lv_has ls 3 [(0, .ref (hRo 99)), (1, .int p1), (2, .int p2)] := hl
  unfold f_X9_priceAt at hf
  obtain ⟨H, hHe⟩ : ∃ z, z = s.heap := ⟨_, rfl⟩
  obtain ⟨locs, hLe⟩ : ∃ z : List Loc, z = [] := ⟨_, rfl⟩
  rw [← hLe]
  have hS : va_S nOne s.heap H locs := by rw [hHe, hLe]; exact hS
  have hP : va_P D vwCl (wRo K hRo sRo) H := by rw [hHe]; exact hP
  have hgo : W p l e (headSpec wz_X9_priceAt r_X9_priceAt).room s m args below meth c H locs 0 0 Q (F0 m 0 ls []) := by
    refine lv_iload_n hx hb dX9_priceAt_0 rfl (lv_at hl 2 rfl) ?_
    refine lv_if_eq (tgt := 18) hx hb dX9_priceAt_1 (by decide) (fun c1 => ?_) (fun c1 => ?_)
    · have hf := it_t hf c1
      refine lv_aload_n hx hb dX9_priceAt_18 rfl (lv_at hl 0 rfl) ?_
      refine va_get (D := D) (ci := 8) (v := .ref (hRo 12)) (C := RX9) (T := TX9) (N := 19) hx hb hts iX9 hown hK hP 0 o_Ro rfl 12 (by decide) (htl _ (mB3 _ (List.mem_of_getElem? (i := 6) rfl))) (fun _ h9 => h9) rfl dX9_priceAt_19 ?_
      refine lv_aload_n hx hb dX9_priceAt_22 rfl (lv_at hl 0 rfl) ?_
      refine va_get (D := D) (ci := 8) (v := .ref (hRo 15)) (C := RX9) (T := TX9) (N := 19) hx hb hts iX9 hown hK hP 0 o_Ro rfl 15 (by decide) (htl _ (mB3 _ (List.mem_of_getElem? (i := 9) rfl))) (fun _ h9 => h9) rfl dX9_priceAt_23 ?_
      refine lv_iload_n hx hb dX9_priceAt_26 rfl (lv_at hl 1 rfl) ?_
      obtain ⟨g2, hf⟩ := gd_s hf
      refine va_iald hx hb hK hP 6 0 (f := sRo.2.2.1 15) a_Ro_15 rfl (vpb_in g2) dX9_priceAt_27 ?_
      refine lv_topi (fun v3 ev3 => ?_)
      have hf := lz_s hf v3 ev3
      obtain ⟨g4, hf⟩ := gd_s hf
      refine va_iald hx hb hK hP 3 0 (f := sRo.2.2.1 12) a_Ro_12 rfl (vpb_in g4) dX9_priceAt_28 ?_
      refine lv_topi (fun v5 ev5 => ?_)
      have hf := lz_s hf v5 ev5
      have e9 := Option.some.inj hf
      rw [hQ]
      exact W.iret (v := v5) hx hb hr (fun t ht hW => ⟨⟨v5, (), rfl, e9, trivial⟩, hS.F ht⟩) hS.2.2 dX9_priceAt_29
    · have hf := it_f hf c1
      refine lv_aload_n hx hb dX9_priceAt_4 rfl (lv_at hl 0 rfl) ?_
      refine va_get (D := D) (ci := 8) (v := .ref (hRo 13)) (C := RX9) (T := TX9) (N := 19) hx hb hts iX9 hown hK hP 0 o_Ro rfl 13 (by decide) (htl _ (mB3 _ (List.mem_of_getElem? (i := 7) rfl))) (fun _ h9 => h9) rfl dX9_priceAt_5 ?_
      refine lv_aload_n hx hb dX9_priceAt_8 rfl (lv_at hl 0 rfl) ?_
      refine va_get (D := D) (ci := 8) (v := .ref (hRo 15)) (C := RX9) (T := TX9) (N := 19) hx hb hts iX9 hown hK hP 0 o_Ro rfl 15 (by decide) (htl _ (mB3 _ (List.mem_of_getElem? (i := 9) rfl))) (fun _ h9 => h9) rfl dX9_priceAt_9 ?_
      refine lv_iload_n hx hb dX9_priceAt_12 rfl (lv_at hl 1 rfl) ?_
      obtain ⟨g6, hf⟩ := gd_s hf
      refine va_iald hx hb hK hP 6 0 (f := sRo.2.2.1 15) a_Ro_15 rfl (vpb_in g6) dX9_priceAt_13 ?_
      refine lv_topi (fun v7 ev7 => ?_)
      have hf := lz_s hf v7 ev7
      obtain ⟨g8, hf⟩ := gd_s hf
      refine va_iald hx hb hK hP 4 0 (f := sRo.2.2.1 13) a_Ro_13 rfl (vpb_in g8) dX9_priceAt_14 ?_
      refine lv_topi (fun v9 ev9 => ?_)
      have hf := lz_s hf v9 ev9
      refine lv_goto (tgt := 29) hx hb dX9_priceAt_15 (by decide) ?_
      have e9 := Option.some.inj hf
      rw [hQ]
      exact W.iret (v := v9) hx hb hr (fun t ht hW => ⟨⟨v9, (), rfl, e9, trivial⟩, hS.F ht⟩) hS.2.2 dX9_priceAt_29
  rw [hHe] at hgo
  exact hgo

def wz_X9_sizeOf : List Cond := .code yX9_sizeOf cX9_sizeOf 2 (some .int) :: wsL_law
abbrev r_X9_sizeOf : Room := { frames := 0, cells := 0, slots := 0, locals := 0 }
set_option maxHeartbeats 4000000 in
set_option maxRecDepth 100000 in
theorem c_X9_sizeOf (l : Launch) (D : va_G) (K : Nat → ClassId) (F : Nat) (hRo : Nat → Nat) (sRo : MS) (p1 : Int32) (res : Int32) (hf : f_X9_sizeOf F sRo p1 = some res) : Met l yX9_sizeOf wz_X9_sizeOf r_X9_sizeOf (va_Pc [.ref (hRo 99), .int p1] (PR D K (wRo K hRo sRo))) (va_Qi (fun r (_ : Unit) => r = res) BN nOne) 0 0 nOne := by
  refine Met.ofW (cc := cX9_sizeOf) (maxL := 2) (ret := (some .int)) (by decide) rfl ?_
  intro p e s m args below meth c s₁ B hml hv
  obtain ⟨hargs, hP, hK⟩ := hv
  have hx := B.exec
  have hb := B.bytes
  have hr := B.returns
  have hts := atoms_spec (ws := wz_X9_sizeOf) B.pre
  have htl : ∀ w ∈ wsL_law, w.before args s = true := fun w h => hts w (List.mem_cons_of_mem _ h)
  have hown : s.vm.findClass RX9 = some m.cls := findClass_of_methodNamed B.named
  have hlocks := B.notSynchronized
  have hS : va_S nOne s.heap s.heap [] := va_S.rf
  have iX9 : ∀ w ∈ wsX90, w ∈ wz_X9_sizeOf := fun w h => List.mem_cons_of_mem _ (inlX9 w h)
  suffices hgo : ∀ Q : State → Prop, Q = MQ below (va_Qi (fun r (_ : Unit) => r = res) BN nOne) args s 0 0 nOne → W p l e (headSpec wz_X9_sizeOf r_X9_sizeOf).room s m args below meth c s.heap [] 0 0 Q (entryFrame m args 2) from hgo _ rfl
  intro Q hQ
  have hen : entryFrame m args 2 = entryFrame m (([.ref (hRo 99), .int p1] : List Value).toArray) 2 := by rw [hargs]
  have hl := lv_entry ([.ref (hRo 99), .int p1]) (n := 2) (Nat.le_of_ble_eq_true rfl)
  rw [hen, lg_entry_eq]
  generalize (lg_sl ([.ref (hRo 99), .int p1]) ++ List.replicate (2 - (lg_sl ([.ref (hRo 99), .int p1])).length) Slot.unset).toArray = ls at hl ⊢
  have hl : lv_has ls 2 [(0, .ref (hRo 99)), (1, .int p1)] := hl
  unfold f_X9_sizeOf at hf
  obtain ⟨H, hHe⟩ : ∃ z, z = s.heap := ⟨_, rfl⟩
  obtain ⟨locs, hLe⟩ : ∃ z : List Loc, z = [] := ⟨_, rfl⟩
  rw [← hLe]
  have hS : va_S nOne s.heap H locs := by rw [hHe, hLe]; exact hS
  have hP : va_P D vwCl (wRo K hRo sRo) H := by rw [hHe]; exact hP
  have hgo : W p l e (headSpec wz_X9_sizeOf r_X9_sizeOf).room s m args below meth c H locs 0 0 Q (F0 m 0 ls []) := by
    refine lv_iload_n hx hb dX9_sizeOf_0 rfl (lv_at hl 1 rfl) ?_
    by_cases c1 : p1 = (0 : Int32)
    · have hf := it_t hf c1
      refine lv_tableIn (tgt := 56) hx hb dX9_sizeOf_1 (by rw [c1]; decide) (by rw [c1]; decide) (off := 55) (by rw [c1]; rfl) (by decide) ?_
      refine lv_aload_n hx hb dX9_sizeOf_56 rfl (lv_at hl 0 rfl) ?_
      refine va_get (D := D) (ci := 8) (v := .int (sRo.1 0)) (C := RX9) (T := TX9) (N := 19) hx hb hts iX9 hown hK hP 0 o_Ro rfl 0 (by decide) (htl _ (mB8 _ (List.mem_of_getElem? (i := 12) rfl))) (fun _ h9 => h9) rfl dX9_sizeOf_57 ?_
      have e9 := Option.some.inj hf
      rw [hQ]
      exact W.iret (v := (sRo.1 0)) hx hb hr (fun t ht hW => ⟨⟨(sRo.1 0), (), rfl, e9, trivial⟩, hS.F ht⟩) hS.2.2 dX9_sizeOf_60
    · have hf := it_f hf c1
      by_cases c2 : p1 = (1 : Int32)
      · have hf := it_t hf c2
        refine lv_tableIn (tgt := 61) hx hb dX9_sizeOf_1 (by rw [c2]; decide) (by rw [c2]; decide) (off := 60) (by rw [c2]; rfl) (by decide) ?_
        refine lv_aload_n hx hb dX9_sizeOf_61 rfl (lv_at hl 0 rfl) ?_
        refine va_get (D := D) (ci := 8) (v := .int (sRo.1 1)) (C := RX9) (T := TX9) (N := 19) hx hb hts iX9 hown hK hP 0 o_Ro rfl 1 (by decide) (htl _ (mB8 _ (List.mem_of_getElem? (i := 13) rfl))) (fun _ h9 => h9) rfl dX9_sizeOf_62 ?_
        have e9 := Option.some.inj hf
        rw [hQ]
        exact W.iret (v := (sRo.1 1)) hx hb hr (fun t ht hW => ⟨⟨(sRo.1 1), (), rfl, e9, trivial⟩, hS.F ht⟩) hS.2.2 dX9_sizeOf_65
      · have hf := it_f hf c2
        by_cases c3 : p1 = (2 : Int32)
        · have hf := it_t hf c3
          refine lv_tableIn (tgt := 66) hx hb dX9_sizeOf_1 (by rw [c3]; decide) (by rw [c3]; decide) (off := 65) (by rw [c3]; rfl) (by decide) ?_
          refine lv_aload_n hx hb dX9_sizeOf_66 rfl (lv_at hl 0 rfl) ?_
          refine va_get (D := D) (ci := 8) (v := .int (sRo.1 2)) (C := RX9) (T := TX9) (N := 19) hx hb hts iX9 hown hK hP 0 o_Ro rfl 2 (by decide) (htl _ (mB8 _ (List.mem_of_getElem? (i := 14) rfl))) (fun _ h9 => h9) rfl dX9_sizeOf_67 ?_
          have e9 := Option.some.inj hf
          rw [hQ]
          exact W.iret (v := (sRo.1 2)) hx hb hr (fun t ht hW => ⟨⟨(sRo.1 2), (), rfl, e9, trivial⟩, hS.F ht⟩) hS.2.2 dX9_sizeOf_70
        · have hf := it_f hf c3
          by_cases c4 : p1 = (3 : Int32)
          · have hf := it_t hf c4
            refine lv_tableIn (tgt := 71) hx hb dX9_sizeOf_1 (by rw [c4]; decide) (by rw [c4]; decide) (off := 70) (by rw [c4]; rfl) (by decide) ?_
            refine lv_aload_n hx hb dX9_sizeOf_71 rfl (lv_at hl 0 rfl) ?_
            refine va_get (D := D) (ci := 8) (v := .int (sRo.1 3)) (C := RX9) (T := TX9) (N := 19) hx hb hts iX9 hown hK hP 0 o_Ro rfl 3 (by decide) (htl _ (mB8 _ (List.mem_of_getElem? (i := 15) rfl))) (fun _ h9 => h9) rfl dX9_sizeOf_72 ?_
            have e9 := Option.some.inj hf
            rw [hQ]
            exact W.iret (v := (sRo.1 3)) hx hb hr (fun t ht hW => ⟨⟨(sRo.1 3), (), rfl, e9, trivial⟩, hS.F ht⟩) hS.2.2 dX9_sizeOf_75
          · have hf := it_f hf c4
            by_cases c5 : p1 = (4 : Int32)
            · have hf := it_t hf c5
              refine lv_tableIn (tgt := 76) hx hb dX9_sizeOf_1 (by rw [c5]; decide) (by rw [c5]; decide) (off := 75) (by rw [c5]; rfl) (by decide) ?_
              refine lv_aload_n hx hb dX9_sizeOf_76 rfl (lv_at hl 0 rfl) ?_
              refine va_get (D := D) (ci := 8) (v := .int (sRo.1 4)) (C := RX9) (T := TX9) (N := 19) hx hb hts iX9 hown hK hP 0 o_Ro rfl 4 (by decide) (htl _ (mB8 _ (List.mem_of_getElem? (i := 16) rfl))) (fun _ h9 => h9) rfl dX9_sizeOf_77 ?_
              have e9 := Option.some.inj hf
              rw [hQ]
              exact W.iret (v := (sRo.1 4)) hx hb hr (fun t ht hW => ⟨⟨(sRo.1 4), (), rfl, e9, trivial⟩, hS.F ht⟩) hS.2.2 dX9_sizeOf_80
            · have hf := it_f hf c5
              by_cases c6 : p1 = (5 : Int32)
              · have hf := it_t hf c6
                refine lv_tableIn (tgt := 81) hx hb dX9_sizeOf_1 (by rw [c6]; decide) (by rw [c6]; decide) (off := 80) (by rw [c6]; rfl) (by decide) ?_
                refine lv_aload_n hx hb dX9_sizeOf_81 rfl (lv_at hl 0 rfl) ?_
                refine va_get (D := D) (ci := 8) (v := .int (sRo.1 5)) (C := RX9) (T := TX9) (N := 19) hx hb hts iX9 hown hK hP 0 o_Ro rfl 5 (by decide) (htl _ (mB8 _ (List.mem_of_getElem? (i := 17) rfl))) (fun _ h9 => h9) rfl dX9_sizeOf_82 ?_
                have e9 := Option.some.inj hf
                rw [hQ]
                exact W.iret (v := (sRo.1 5)) hx hb hr (fun t ht hW => ⟨⟨(sRo.1 5), (), rfl, e9, trivial⟩, hS.F ht⟩) hS.2.2 dX9_sizeOf_85
              · have hf := it_f hf c6
                by_cases c7 : p1 = (6 : Int32)
                · have hf := it_t hf c7
                  refine lv_tableIn (tgt := 86) hx hb dX9_sizeOf_1 (by rw [c7]; decide) (by rw [c7]; decide) (off := 85) (by rw [c7]; rfl) (by decide) ?_
                  refine lv_aload_n hx hb dX9_sizeOf_86 rfl (lv_at hl 0 rfl) ?_
                  refine va_get (D := D) (ci := 8) (v := .int (sRo.1 6)) (C := RX9) (T := TX9) (N := 19) hx hb hts iX9 hown hK hP 0 o_Ro rfl 6 (by decide) (htl _ (mB8 _ (List.mem_of_getElem? (i := 18) rfl))) (fun _ h9 => h9) rfl dX9_sizeOf_87 ?_
                  have e9 := Option.some.inj hf
                  rw [hQ]
                  exact W.iret (v := (sRo.1 6)) hx hb hr (fun t ht hW => ⟨⟨(sRo.1 6), (), rfl, e9, trivial⟩, hS.F ht⟩) hS.2.2 dX9_sizeOf_90
                · have hf := it_f hf c7
                  by_cases c8 : p1 = (7 : Int32)
                  · have hf := it_t hf c8
                    refine lv_tableIn (tgt := 91) hx hb dX9_sizeOf_1 (by rw [c8]; decide) (by rw [c8]; decide) (off := 90) (by rw [c8]; rfl) (by decide) ?_
                    refine lv_aload_n hx hb dX9_sizeOf_91 rfl (lv_at hl 0 rfl) ?_
                    refine va_get (D := D) (ci := 8) (v := .int (sRo.1 7)) (C := RX9) (T := TX9) (N := 19) hx hb hts iX9 hown hK hP 0 o_Ro rfl 7 (by decide) (htl _ (mB8 _ (List.mem_of_getElem? (i := 19) rfl))) (fun _ h9 => h9) rfl dX9_sizeOf_92 ?_
                    have e9 := Option.some.inj hf
                    rw [hQ]
                    exact W.iret (v := (sRo.1 7)) hx hb hr (fun t ht hW => ⟨⟨(sRo.1 7), (), rfl, e9, trivial⟩, hS.F ht⟩) hS.2.2 dX9_sizeOf_95
                  · have hf := it_f hf c8
                    by_cases c9 : p1 = (8 : Int32)
                    · have hf := it_t hf c9
                      refine lv_tableIn (tgt := 96) hx hb dX9_sizeOf_1 (by rw [c9]; decide) (by rw [c9]; decide) (off := 95) (by rw [c9]; rfl) (by decide) ?_
                      refine lv_aload_n hx hb dX9_sizeOf_96 rfl (lv_at hl 0 rfl) ?_
                      refine va_get (D := D) (ci := 8) (v := .int (sRo.1 8)) (C := RX9) (T := TX9) (N := 19) hx hb hts iX9 hown hK hP 0 o_Ro rfl 8 (by decide) (htl _ (mB8 _ (List.mem_of_getElem? (i := 20) rfl))) (fun _ h9 => h9) rfl dX9_sizeOf_97 ?_
                      have e9 := Option.some.inj hf
                      rw [hQ]
                      exact W.iret (v := (sRo.1 8)) hx hb hr (fun t ht hW => ⟨⟨(sRo.1 8), (), rfl, e9, trivial⟩, hS.F ht⟩) hS.2.2 dX9_sizeOf_100
                    · have hf := it_f hf c9
                      by_cases c10 : p1 = (9 : Int32)
                      · have hf := it_t hf c10
                        refine lv_tableIn (tgt := 101) hx hb dX9_sizeOf_1 (by rw [c10]; decide) (by rw [c10]; decide) (off := 100) (by rw [c10]; rfl) (by decide) ?_
                        refine lv_aload_n hx hb dX9_sizeOf_101 rfl (lv_at hl 0 rfl) ?_
                        refine va_get (D := D) (ci := 8) (v := .int (sRo.1 9)) (C := RX9) (T := TX9) (N := 19) hx hb hts iX9 hown hK hP 0 o_Ro rfl 9 (by decide) (htl _ (mB8 _ (List.mem_of_getElem? (i := 21) rfl))) (fun _ h9 => h9) rfl dX9_sizeOf_102 ?_
                        have e9 := Option.some.inj hf
                        rw [hQ]
                        exact W.iret (v := (sRo.1 9)) hx hb hr (fun t ht hW => ⟨⟨(sRo.1 9), (), rfl, e9, trivial⟩, hS.F ht⟩) hS.2.2 dX9_sizeOf_105
                      · have hf := it_f hf c10
                        have nc1 := lv_neT c1 (show ((0 : Int32)).toInt = 0 from by decide)
                        have nc2 := lv_neT c2 (show ((1 : Int32)).toInt = 1 from by decide)
                        have nc3 := lv_neT c3 (show ((2 : Int32)).toInt = 2 from by decide)
                        have nc4 := lv_neT c4 (show ((3 : Int32)).toInt = 3 from by decide)
                        have nc5 := lv_neT c5 (show ((4 : Int32)).toInt = 4 from by decide)
                        have nc6 := lv_neT c6 (show ((5 : Int32)).toInt = 5 from by decide)
                        have nc7 := lv_neT c7 (show ((6 : Int32)).toInt = 6 from by decide)
                        have nc8 := lv_neT c8 (show ((7 : Int32)).toInt = 7 from by decide)
                        have nc9 := lv_neT c9 (show ((8 : Int32)).toInt = 8 from by decide)
                        have nc10 := lv_neT c10 (show ((9 : Int32)).toInt = 9 from by decide)
                        refine lv_tableOut (tgt := 106) hx hb dX9_sizeOf_1 (by omega) (by decide) ?_
                        refine lv_iconst (v := (-1 : Int32)) hx hb dX9_sizeOf_106 (by decide) ?_
                        have e9 := Option.some.inj hf
                        rw [hQ]
                        exact W.iret (v := (-1 : Int32)) hx hb hr (fun t ht hW => ⟨⟨(-1 : Int32), (), rfl, e9, trivial⟩, hS.F ht⟩) hS.2.2 dX9_sizeOf_107
  rw [hHe] at hgo
  exact hgo
