def wz_X0_init : List Cond := .code yX0_init cX0_init 1 none :: wsL_law
abbrev r_X0_init : Room := { frames := 1, cells := 0, slots := 0, locals := 12 }
set_option maxHeartbeats 4000000 in
set_option maxRecDepth 100000 in
theorem c_X0_init (l : Launch) (D : va_G) (K : Nat → ClassId) (h0 sz : Nat) : Met l yX0_init wz_X0_init r_X0_init (va_Pc [.ref h0] (PWo D K [(h0, .inr (0, dfDw))] sz)) (va_Qv (fun u : Nat → Nat => u 99 = h0) (fun u t => BW D K (va_A ([(h0, .inr (0, dfDw))]) sz) (wDw K u z0) t) (va_A ([(h0, .inr (0, dfDw))]) sz)) 0 0 (va_A ([(h0, .inr (0, dfDw))]) sz) := by
  refine Met.ofW (cc := cX0_init) (maxL := 1) (ret := none) (by decide) rfl ?_
  intro p e s m args below meth c s₁ B hml hv
  obtain ⟨hargs, ⟨hsz, hP, hK, hD0⟩, hO⟩ := hv
  have hx := B.exec
  have hb := B.bytes
  have hr := B.returns
  have hts := atoms_spec (ws := wz_X0_init) B.pre
  have htl : ∀ w ∈ wsL_law, w.before args s = true := fun w h => hts w (List.mem_cons_of_mem _ h)
  have hown : s.vm.findClass RX0 = some m.cls := findClass_of_methodNamed B.named
  have hlocks := B.notSynchronized
  have hin : meth.name = "<init>" := (name_of_methodNamed B.named B.method).1
  subst hsz
  have hD := hD0.self (sz := s.heap.size)
  generalize hAe : va_A ([(h0, .inr (0, dfDw))]) s.heap.size = A at hD ⊢
  have hA : ∀ q : Nat, s.heap.size ≤ q → A q := fun q h => by rw [← hAe]; exact Or.inr h
  have hS : va_S A s.heap s.heap [] := va_S.rf
  have iX0 : ∀ w ∈ wsX00, w ∈ wz_X0_init := fun w h => List.mem_cons_of_mem _ (inlX0 w h)
  have hen : entryFrame m args 1 = entryFrame m (([.ref h0] : List Value).toArray) 1 := by rw [hargs]
  have hl := lv_entry ([.ref h0]) (n := 1) (Nat.le_of_ble_eq_true rfl)
  rw [hen, lg_entry_eq]
  generalize (lg_sl ([.ref h0]) ++ List.replicate (1 - (lg_sl ([.ref h0])).length) Slot.unset).toArray = ls at hl ⊢
  have hl : lv_has ls 1 [(0, .ref h0)] := hl
  have hP : va_P D vwCl [(h0, .inr (0, [.int 0]))] s.heap := hP
  have hD : va_D A [(h0, .inr (0, [.int 0]))] := hD
  refine lv_aload_n hx hb dX0_init_0 rfl (lv_at hl 0 rfl) ?_
  refine W.objInit hx hb hown (htl _ (mB4 _ (List.mem_of_getElem? (i := 18) rfl))) (htl _ (mB1 _ (List.mem_of_getElem? (i := 11) rfl))) (htl _ (mB1 _ (List.mem_of_getElem? (i := 12) rfl))) rfl (by rw [hml]; exact hl.1) rfl dX0_init_1 (Nat.le_of_ble_eq_true rfl) (Nat.le_of_ble_eq_true rfl) ?_
  refine W.eq (g2 := F0 m 4 ls []) rfl ?_
  refine W.widen (k := 0) (n := 0) (Nat.le_of_ble_eq_true rfl) (Nat.le_of_ble_eq_true rfl) ?_
  obtain ⟨u, eu⟩ : ∃ u : Nat → Nat, u = (uN (fun _ => 0) 99 h0) := ⟨_, rfl⟩
  have hP9 : va_P D vwCl (wDw K u z0) s.heap := by rw [eu]; exact va_Psel hP [0] rfl
  have hD9 : va_D A (wDw K u z0) := by rw [eu]; exact hD.sub [0] (by decide) rfl
  have hu9 : u 99 = h0 := by rw [eu]; rfl
  exact W.vret hx hb hr (fun t ht hW => ⟨⟨u, rfl, hu9, by rw [ht]; exact hP9, va_K.moved hW.alike hK, hD9⟩, hS.F ht⟩) hS.2.2 dX0_init_4

def wz_X2_init : List Cond := .code yX2_init cX2_init 1 none :: wsL_law
abbrev r_X2_init : Room := { frames := 1, cells := 0, slots := 0, locals := 12 }
set_option maxHeartbeats 4000000 in
set_option maxRecDepth 100000 in
theorem c_X2_init (l : Launch) (D : va_G) (K : Nat → ClassId) (h0 sz : Nat) : Met l yX2_init wz_X2_init r_X2_init (va_Pc [.ref h0] (PWo D K [(h0, .inr (2, dfFr))] sz)) (va_Qv (fun u : Nat → Nat => u 99 = h0) (fun u t => BW D K (va_A ([(h0, .inr (2, dfFr))]) sz) (wFr K u (sL z0 1 1)) t) (va_A ([(h0, .inr (2, dfFr))]) sz)) 0 0 (va_A ([(h0, .inr (2, dfFr))]) sz) := by
  refine Met.ofW (cc := cX2_init) (maxL := 1) (ret := none) (by decide) rfl ?_
  intro p e s m args below meth c s₁ B hml hv
  obtain ⟨hargs, ⟨hsz, hP, hK, hD0⟩, hO⟩ := hv
  have hx := B.exec
  have hb := B.bytes
  have hr := B.returns
  have hts := atoms_spec (ws := wz_X2_init) B.pre
  have htl : ∀ w ∈ wsL_law, w.before args s = true := fun w h => hts w (List.mem_cons_of_mem _ h)
  have hown : s.vm.findClass RX2 = some m.cls := findClass_of_methodNamed B.named
  have hlocks := B.notSynchronized
  have hin : meth.name = "<init>" := (name_of_methodNamed B.named B.method).1
  subst hsz
  have hD := hD0.self (sz := s.heap.size)
  generalize hAe : va_A ([(h0, .inr (2, dfFr))]) s.heap.size = A at hD ⊢
  have hA : ∀ q : Nat, s.heap.size ≤ q → A q := fun q h => by rw [← hAe]; exact Or.inr h
  have hS : va_S A s.heap s.heap [] := va_S.rf
  have iX2 : ∀ w ∈ wsX20, w ∈ wz_X2_init := fun w h => List.mem_cons_of_mem _ (inlX2 w h)
  have hen : entryFrame m args 1 = entryFrame m (([.ref h0] : List Value).toArray) 1 := by rw [hargs]
  have hl := lv_entry ([.ref h0]) (n := 1) (Nat.le_of_ble_eq_true rfl)
  rw [hen, lg_entry_eq]
  generalize (lg_sl ([.ref h0]) ++ List.replicate (1 - (lg_sl ([.ref h0])).length) Slot.unset).toArray = ls at hl ⊢
  have hl : lv_has ls 1 [(0, .ref h0)] := hl
  have hP : va_P D vwCl [(h0, .inr (2, [.long 0, .long 0]))] s.heap := hP
  have hD : va_D A [(h0, .inr (2, [.long 0, .long 0]))] := hD
  refine lv_aload_n hx hb dX2_init_0 rfl (lv_at hl 0 rfl) ?_
  refine W.objInit hx hb hown (htl _ (mB5 _ (List.mem_of_getElem? (i := 18) rfl))) (htl _ (mB1 _ (List.mem_of_getElem? (i := 11) rfl))) (htl _ (mB1 _ (List.mem_of_getElem? (i := 12) rfl))) rfl (by rw [hml]; exact hl.1) rfl dX2_init_1 (Nat.le_of_ble_eq_true rfl) (Nat.le_of_ble_eq_true rfl) ?_
  refine W.eq (g2 := F0 m 4 ls []) rfl ?_
  refine lv_aload_n hx hb dX2_init_4 rfl (lv_at hl 0 rfl) ?_
  refine lv_lconst (v := (1 : Int64)) hx hb dX2_init_5 (by decide) ?_
  refine va_put (D := D) (ci := 2) (v := .long (1 : Int64)) (ty := .long) (C := RX2) (T := TX2) (N := 2) hx hb hts iX2 tyX2 tyX2_ok nmX2 hown hK hP hD hS 0 rfl rfl 1 (by decide) (htl _ (mB5 _ (List.mem_of_getElem? (i := 19) rfl))) (fun _ h9 => h9) rfl (by decide +kernel) rfl rfl (Nat.le_of_ble_eq_true rfl) dX2_init_6 (fun H locs hP hD hS => ?_)
  have hP : va_P D vwCl ([(h0, .inr (2, [.long 0, .long (1 : Int64)]))]) H := hP
  have hD : va_D A ([(h0, .inr (2, [.long 0, .long (1 : Int64)]))]) := hD
  refine W.widen (k := 0) (n := 0) (Nat.le_of_ble_eq_true rfl) (Nat.le_of_ble_eq_true rfl) ?_
  obtain ⟨u, eu⟩ : ∃ u : Nat → Nat, u = (uN (fun _ => 0) 99 h0) := ⟨_, rfl⟩
  have hP9 : va_P D vwCl (wFr K u (sL z0 1 1)) H := by rw [eu]; exact va_Psel hP [0] rfl
  have hD9 : va_D A (wFr K u (sL z0 1 1)) := by rw [eu]; exact hD.sub [0] (by decide) rfl
  have hu9 : u 99 = h0 := by rw [eu]; rfl
  exact W.vret hx hb hr (fun t ht hW => ⟨⟨u, rfl, hu9, by rw [ht]; exact hP9, va_K.moved hW.alike hK, hD9⟩, hS.F ht⟩) hS.2.2 dX2_init_9

def wz_X9_init : List Cond := .code yX9_init cX9_init 1 none :: wsL_law
abbrev r_X9_init : Room := { frames := 1, cells := 9, slots := 217, locals := 12 }
set_option maxHeartbeats 4000000 in
set_option maxRecDepth 100000 in
theorem c_X9_init (l : Launch) (D : va_G) (K : Nat → ClassId) (h0 sz : Nat) : Met l yX9_init wz_X9_init r_X9_init (va_Pc [.ref h0] (PWo D K [(h0, .inr (8, dfRo))] sz)) (va_Qv (fun u : Nat → Nat => u 99 = h0) (fun u t => BW D K (va_A ([(h0, .inr (8, dfRo))]) sz) (wRo K u z0) t) (va_A ([(h0, .inr (8, dfRo))]) sz)) 9 217 (va_A ([(h0, .inr (8, dfRo))]) sz) := by
  refine Met.ofW (cc := cX9_init) (maxL := 1) (ret := none) (by decide) rfl ?_
  intro p e s m args below meth c s₁ B hml hv
  obtain ⟨hargs, ⟨hsz, hP, hK, hD0⟩, hO⟩ := hv
  have hx := B.exec
  have hb := B.bytes
  have hr := B.returns
  have hts := atoms_spec (ws := wz_X9_init) B.pre
  have htl : ∀ w ∈ wsL_law, w.before args s = true := fun w h => hts w (List.mem_cons_of_mem _ h)
  have hown : s.vm.findClass RX9 = some m.cls := findClass_of_methodNamed B.named
  have hlocks := B.notSynchronized
  have hin : meth.name = "<init>" := (name_of_methodNamed B.named B.method).1
  subst hsz
  have hD := hD0.self (sz := s.heap.size)
  generalize hAe : va_A ([(h0, .inr (8, dfRo))]) s.heap.size = A at hD ⊢
  have hA : ∀ q : Nat, s.heap.size ≤ q → A q := fun q h => by rw [← hAe]; exact Or.inr h
  have hS : va_S A s.heap s.heap [] := va_S.rf
  have iX9 : ∀ w ∈ wsX90, w ∈ wz_X9_init := fun w h => List.mem_cons_of_mem _ (inlX9 w h)
  have hen : entryFrame m args 1 = entryFrame m (([.ref h0] : List Value).toArray) 1 := by rw [hargs]
  have hl := lv_entry ([.ref h0]) (n := 1) (Nat.le_of_ble_eq_true rfl)
  rw [hen, lg_entry_eq]
  generalize (lg_sl ([.ref h0]) ++ List.replicate (1 - (lg_sl ([.ref h0])).length) Slot.unset).toArray = ls at hl ⊢
  have hl : lv_has ls 1 [(0, .ref h0)] := hl
  have hP : va_P D vwCl [(h0, .inr (8, [.int 0, .int 0, .int 0, .int 0, .int 0, .int 0, .int 0, .int 0, .int 0, .int 0, .null, .null, .null, .null, .null, .null, .null, .null, .null]))] s.heap := hP
  have hD : va_D A [(h0, .inr (8, [.int 0, .int 0, .int 0, .int 0, .int 0, .int 0, .int 0, .int 0, .int 0, .int 0, .null, .null, .null, .null, .null, .null, .null, .null, .null]))] := hD
  refine lv_aload_n hx hb dX9_init_0 rfl (lv_at hl 0 rfl) ?_
  refine W.objInit hx hb hown (htl _ (mB3 _ (List.mem_of_getElem? (i := 2) rfl))) (htl _ (mB1 _ (List.mem_of_getElem? (i := 11) rfl))) (htl _ (mB1 _ (List.mem_of_getElem? (i := 12) rfl))) rfl (by rw [hml]; exact hl.1) rfl dX9_init_1 (Nat.le_of_ble_eq_true rfl) (Nat.le_of_ble_eq_true rfl) ?_
  refine W.eq (g2 := F0 m 4 ls []) rfl ?_
  refine lv_aload_n hx hb dX9_init_4 rfl (lv_at hl 0 rfl) ?_
  refine lv_bipush (v := (81 : Int32)) hx hb dX9_init_5 (by decide) ?_
  refine nw_i hx hb (htl _ (mB3 _ (List.mem_of_getElem? (i := 3) rfl))) hK hP hD hS hA (n := (81 : Int32)) (N' := 81) (by decide) rfl (Nat.le_of_ble_eq_true rfl) (Nat.le_of_ble_eq_true rfl) (Nat.le_of_ble_eq_true rfl) dX9_init_7 (fun q1 H hP hD hS => ?_)
  have hP : va_P D vwCl ([(h0, .inr (8, [.int 0, .int 0, .int 0, .int 0, .int 0, .int 0, .int 0, .int 0, .int 0, .int 0, .null, .null, .null, .null, .null, .null, .null, .null, .null]))] ++ wAI K q1 81 (fun _ => 0)) H := hP
  have hD : va_D A ([(h0, .inr (8, [.int 0, .int 0, .int 0, .int 0, .int 0, .int 0, .int 0, .int 0, .int 0, .int 0, .null, .null, .null, .null, .null, .null, .null, .null, .null]))] ++ wAI K q1 81 (fun _ => 0)) := hD
  refine va_putF (D := D) (ci := 8) (v := .ref q1) (ty := .array .int) (C := RX9) (T := TX9) (N := 19) hx hb hts iX9 tyX9 tyX9_ok nmX9 hown hK hP hD hS 0 rfl rfl 10 (by decide) (htl _ (mB3 _ (List.mem_of_getElem? (i := 4) rfl))) (fun _ h9 => h9) rfl hin rfl (by decide +kernel) rfl rfl (Nat.le_of_ble_eq_true rfl) dX9_init_9 (fun H locs hP hD hS => ?_)
  have hP : va_P D vwCl ([(h0, .inr (8, [.int 0, .int 0, .int 0, .int 0, .int 0, .int 0, .int 0, .int 0, .int 0, .int 0, .ref q1, .null, .null, .null, .null, .null, .null, .null, .null]))] ++ wAI K q1 81 (fun _ => 0)) H := hP
  have hD : va_D A ([(h0, .inr (8, [.int 0, .int 0, .int 0, .int 0, .int 0, .int 0, .int 0, .int 0, .int 0, .int 0, .ref q1, .null, .null, .null, .null, .null, .null, .null, .null]))] ++ wAI K q1 81 (fun _ => 0)) := hD
  refine lv_aload_n hx hb dX9_init_12 rfl (lv_at hl 0 rfl) ?_
  refine lv_bipush (v := (81 : Int32)) hx hb dX9_init_13 (by decide) ?_
  refine nw_i hx hb (htl _ (mB3 _ (List.mem_of_getElem? (i := 3) rfl))) hK hP hD hS hA (n := (81 : Int32)) (N' := 81) (by decide) rfl (Nat.le_of_ble_eq_true rfl) (Nat.le_of_ble_eq_true rfl) (Nat.le_of_ble_eq_true rfl) dX9_init_15 (fun q2 H hP hD hS => ?_)
  have hP : va_P D vwCl ([(h0, .inr (8, [.int 0, .int 0, .int 0, .int 0, .int 0, .int 0, .int 0, .int 0, .int 0, .int 0, .ref q1, .null, .null, .null, .null, .null, .null, .null, .null]))] ++ wAI K q1 81 (fun _ => 0) ++ wAI K q2 81 (fun _ => 0)) H := hP
  have hD : va_D A ([(h0, .inr (8, [.int 0, .int 0, .int 0, .int 0, .int 0, .int 0, .int 0, .int 0, .int 0, .int 0, .ref q1, .null, .null, .null, .null, .null, .null, .null, .null]))] ++ wAI K q1 81 (fun _ => 0) ++ wAI K q2 81 (fun _ => 0)) := hD
  refine va_putF (D := D) (ci := 8) (v := .ref q2) (ty := .array .int) (C := RX9) (T := TX9) (N := 19) hx hb hts iX9 tyX9 tyX9_ok nmX9 hown hK hP hD hS 0 rfl rfl 11 (by decide) (htl _ (mB3 _ (List.mem_of_getElem? (i := 5) rfl))) (fun _ h9 => h9) rfl hin rfl (by decide +kernel) rfl rfl (Nat.le_of_ble_eq_true rfl) dX9_init_17 (fun H locs hP hD hS => ?_)
  have hP : va_P D vwCl ([(h0, .inr (8, [.int 0, .int 0, .int 0, .int 0, .int 0, .int 0, .int 0, .int 0, .int 0, .int 0, .ref q1, .ref q2, .null, .null, .null, .null, .null, .null, .null]))] ++ wAI K q1 81 (fun _ => 0) ++ wAI K q2 81 (fun _ => 0)) H := hP
  have hD : va_D A ([(h0, .inr (8, [.int 0, .int 0, .int 0, .int 0, .int 0, .int 0, .int 0, .int 0, .int 0, .int 0, .ref q1, .ref q2, .null, .null, .null, .null, .null, .null, .null]))] ++ wAI K q1 81 (fun _ => 0) ++ wAI K q2 81 (fun _ => 0)) := hD
  refine lv_aload_n hx hb dX9_init_20 rfl (lv_at hl 0 rfl) ?_
  refine lv_bipush (v := (9 : Int32)) hx hb dX9_init_21 (by decide) ?_
  refine nw_i hx hb (htl _ (mB3 _ (List.mem_of_getElem? (i := 3) rfl))) hK hP hD hS hA (n := (9 : Int32)) (N' := 9) (by decide) rfl (Nat.le_of_ble_eq_true rfl) (Nat.le_of_ble_eq_true rfl) (Nat.le_of_ble_eq_true rfl) dX9_init_23 (fun q3 H hP hD hS => ?_)
  have hP : va_P D vwCl ([(h0, .inr (8, [.int 0, .int 0, .int 0, .int 0, .int 0, .int 0, .int 0, .int 0, .int 0, .int 0, .ref q1, .ref q2, .null, .null, .null, .null, .null, .null, .null]))] ++ wAI K q1 81 (fun _ => 0) ++ wAI K q2 81 (fun _ => 0) ++ wAI K q3 9 (fun _ => 0)) H := hP
  have hD : va_D A ([(h0, .inr (8, [.int 0, .int 0, .int 0, .int 0, .int 0, .int 0, .int 0, .int 0, .int 0, .int 0, .ref q1, .ref q2, .null, .null, .null, .null, .null, .null, .null]))] ++ wAI K q1 81 (fun _ => 0) ++ wAI K q2 81 (fun _ => 0) ++ wAI K q3 9 (fun _ => 0)) := hD
  refine va_putF (D := D) (ci := 8) (v := .ref q3) (ty := .array .int) (C := RX9) (T := TX9) (N := 19) hx hb hts iX9 tyX9 tyX9_ok nmX9 hown hK hP hD hS 0 rfl rfl 12 (by decide) (htl _ (mB3 _ (List.mem_of_getElem? (i := 6) rfl))) (fun _ h9 => h9) rfl hin rfl (by decide +kernel) rfl rfl (Nat.le_of_ble_eq_true rfl) dX9_init_25 (fun H locs hP hD hS => ?_)
  have hP : va_P D vwCl ([(h0, .inr (8, [.int 0, .int 0, .int 0, .int 0, .int 0, .int 0, .int 0, .int 0, .int 0, .int 0, .ref q1, .ref q2, .ref q3, .null, .null, .null, .null, .null, .null]))] ++ wAI K q1 81 (fun _ => 0) ++ wAI K q2 81 (fun _ => 0) ++ wAI K q3 9 (fun _ => 0)) H := hP
  have hD : va_D A ([(h0, .inr (8, [.int 0, .int 0, .int 0, .int 0, .int 0, .int 0, .int 0, .int 0, .int 0, .int 0, .ref q1, .ref q2, .ref q3, .null, .null, .null, .null, .null, .null]))] ++ wAI K q1 81 (fun _ => 0) ++ wAI K q2 81 (fun _ => 0) ++ wAI K q3 9 (fun _ => 0)) := hD
  refine lv_aload_n hx hb dX9_init_28 rfl (lv_at hl 0 rfl) ?_
  refine lv_bipush (v := (9 : Int32)) hx hb dX9_init_29 (by decide) ?_
  refine nw_i hx hb (htl _ (mB3 _ (List.mem_of_getElem? (i := 3) rfl))) hK hP hD hS hA (n := (9 : Int32)) (N' := 9) (by decide) rfl (Nat.le_of_ble_eq_true rfl) (Nat.le_of_ble_eq_true rfl) (Nat.le_of_ble_eq_true rfl) dX9_init_31 (fun q4 H hP hD hS => ?_)
  have hP : va_P D vwCl ([(h0, .inr (8, [.int 0, .int 0, .int 0, .int 0, .int 0, .int 0, .int 0, .int 0, .int 0, .int 0, .ref q1, .ref q2, .ref q3, .null, .null, .null, .null, .null, .null]))] ++ wAI K q1 81 (fun _ => 0) ++ wAI K q2 81 (fun _ => 0) ++ wAI K q3 9 (fun _ => 0) ++ wAI K q4 9 (fun _ => 0)) H := hP
  have hD : va_D A ([(h0, .inr (8, [.int 0, .int 0, .int 0, .int 0, .int 0, .int 0, .int 0, .int 0, .int 0, .int 0, .ref q1, .ref q2, .ref q3, .null, .null, .null, .null, .null, .null]))] ++ wAI K q1 81 (fun _ => 0) ++ wAI K q2 81 (fun _ => 0) ++ wAI K q3 9 (fun _ => 0) ++ wAI K q4 9 (fun _ => 0)) := hD
  refine va_putF (D := D) (ci := 8) (v := .ref q4) (ty := .array .int) (C := RX9) (T := TX9) (N := 19) hx hb hts iX9 tyX9 tyX9_ok nmX9 hown hK hP hD hS 0 rfl rfl 13 (by decide) (htl _ (mB3 _ (List.mem_of_getElem? (i := 7) rfl))) (fun _ h9 => h9) rfl hin rfl (by decide +kernel) rfl rfl (Nat.le_of_ble_eq_true rfl) dX9_init_33 (fun H locs hP hD hS => ?_)
  have hP : va_P D vwCl ([(h0, .inr (8, [.int 0, .int 0, .int 0, .int 0, .int 0, .int 0, .int 0, .int 0, .int 0, .int 0, .ref q1, .ref q2, .ref q3, .ref q4, .null, .null, .null, .null, .null]))] ++ wAI K q1 81 (fun _ => 0) ++ wAI K q2 81 (fun _ => 0) ++ wAI K q3 9 (fun _ => 0) ++ wAI K q4 9 (fun _ => 0)) H := hP
  have hD : va_D A ([(h0, .inr (8, [.int 0, .int 0, .int 0, .int 0, .int 0, .int 0, .int 0, .int 0, .int 0, .int 0, .ref q1, .ref q2, .ref q3, .ref q4, .null, .null, .null, .null, .null]))] ++ wAI K q1 81 (fun _ => 0) ++ wAI K q2 81 (fun _ => 0) ++ wAI K q3 9 (fun _ => 0) ++ wAI K q4 9 (fun _ => 0)) := hD
  refine lv_aload_n hx hb dX9_init_36 rfl (lv_at hl 0 rfl) ?_
  refine lv_bipush (v := (9 : Int32)) hx hb dX9_init_37 (by decide) ?_
  refine nw_i hx hb (htl _ (mB3 _ (List.mem_of_getElem? (i := 3) rfl))) hK hP hD hS hA (n := (9 : Int32)) (N' := 9) (by decide) rfl (Nat.le_of_ble_eq_true rfl) (Nat.le_of_ble_eq_true rfl) (Nat.le_of_ble_eq_true rfl) dX9_init_39 (fun q5 H hP hD hS => ?_)
  have hP : va_P D vwCl ([(h0, .inr (8, [.int 0, .int 0, .int 0, .int 0, .int 0, .int 0, .int 0, .int 0, .int 0, .int 0, .ref q1, .ref q2, .ref q3, .ref q4, .null, .null, .null, .null, .null]))] ++ wAI K q1 81 (fun _ => 0) ++ wAI K q2 81 (fun _ => 0) ++ wAI K q3 9 (fun _ => 0) ++ wAI K q4 9 (fun _ => 0) ++ wAI K q5 9 (fun _ => 0)) H := hP
  have hD : va_D A ([(h0, .inr (8, [.int 0, .int 0, .int 0, .int 0, .int 0, .int 0, .int 0, .int 0, .int 0, .int 0, .ref q1, .ref q2, .ref q3, .ref q4, .null, .null, .null, .null, .null]))] ++ wAI K q1 81 (fun _ => 0) ++ wAI K q2 81 (fun _ => 0) ++ wAI K q3 9 (fun _ => 0) ++ wAI K q4 9 (fun _ => 0) ++ wAI K q5 9 (fun _ => 0)) := hD
  refine va_putF (D := D) (ci := 8) (v := .ref q5) (ty := .array .int) (C := RX9) (T := TX9) (N := 19) hx hb hts iX9 tyX9 tyX9_ok nmX9 hown hK hP hD hS 0 rfl rfl 14 (by decide) (htl _ (mB3 _ (List.mem_of_getElem? (i := 8) rfl))) (fun _ h9 => h9) rfl hin rfl (by decide +kernel) rfl rfl (Nat.le_of_ble_eq_true rfl) dX9_init_41 (fun H locs hP hD hS => ?_)
  have hP : va_P D vwCl ([(h0, .inr (8, [.int 0, .int 0, .int 0, .int 0, .int 0, .int 0, .int 0, .int 0, .int 0, .int 0, .ref q1, .ref q2, .ref q3, .ref q4, .ref q5, .null, .null, .null, .null]))] ++ wAI K q1 81 (fun _ => 0) ++ wAI K q2 81 (fun _ => 0) ++ wAI K q3 9 (fun _ => 0) ++ wAI K q4 9 (fun _ => 0) ++ wAI K q5 9 (fun _ => 0)) H := hP
  have hD : va_D A ([(h0, .inr (8, [.int 0, .int 0, .int 0, .int 0, .int 0, .int 0, .int 0, .int 0, .int 0, .int 0, .ref q1, .ref q2, .ref q3, .ref q4, .ref q5, .null, .null, .null, .null]))] ++ wAI K q1 81 (fun _ => 0) ++ wAI K q2 81 (fun _ => 0) ++ wAI K q3 9 (fun _ => 0) ++ wAI K q4 9 (fun _ => 0) ++ wAI K q5 9 (fun _ => 0)) := hD
  refine lv_aload_n hx hb dX9_init_44 rfl (lv_at hl 0 rfl) ?_
  refine lv_bipush (v := (9 : Int32)) hx hb dX9_init_45 (by decide) ?_
  refine nw_i hx hb (htl _ (mB3 _ (List.mem_of_getElem? (i := 3) rfl))) hK hP hD hS hA (n := (9 : Int32)) (N' := 9) (by decide) rfl (Nat.le_of_ble_eq_true rfl) (Nat.le_of_ble_eq_true rfl) (Nat.le_of_ble_eq_true rfl) dX9_init_47 (fun q6 H hP hD hS => ?_)
  have hP : va_P D vwCl ([(h0, .inr (8, [.int 0, .int 0, .int 0, .int 0, .int 0, .int 0, .int 0, .int 0, .int 0, .int 0, .ref q1, .ref q2, .ref q3, .ref q4, .ref q5, .null, .null, .null, .null]))] ++ wAI K q1 81 (fun _ => 0) ++ wAI K q2 81 (fun _ => 0) ++ wAI K q3 9 (fun _ => 0) ++ wAI K q4 9 (fun _ => 0) ++ wAI K q5 9 (fun _ => 0) ++ wAI K q6 9 (fun _ => 0)) H := hP
  have hD : va_D A ([(h0, .inr (8, [.int 0, .int 0, .int 0, .int 0, .int 0, .int 0, .int 0, .int 0, .int 0, .int 0, .ref q1, .ref q2, .ref q3, .ref q4, .ref q5, .null, .null, .null, .null]))] ++ wAI K q1 81 (fun _ => 0) ++ wAI K q2 81 (fun _ => 0) ++ wAI K q3 9 (fun _ => 0) ++ wAI K q4 9 (fun _ => 0) ++ wAI K q5 9 (fun _ => 0) ++ wAI K q6 9 (fun _ => 0)) := hD
  refine va_putF (D := D) (ci := 8) (v := .ref q6) (ty := .array .int) (C := RX9) (T := TX9) (N := 19) hx hb hts iX9 tyX9 tyX9_ok nmX9 hown hK hP hD hS 0 rfl rfl 15 (by decide) (htl _ (mB3 _ (List.mem_of_getElem? (i := 9) rfl))) (fun _ h9 => h9) rfl hin rfl (by decide +kernel) rfl rfl (Nat.le_of_ble_eq_true rfl) dX9_init_49 (fun H locs hP hD hS => ?_)
  have hP : va_P D vwCl ([(h0, .inr (8, [.int 0, .int 0, .int 0, .int 0, .int 0, .int 0, .int 0, .int 0, .int 0, .int 0, .ref q1, .ref q2, .ref q3, .ref q4, .ref q5, .ref q6, .null, .null, .null]))] ++ wAI K q1 81 (fun _ => 0) ++ wAI K q2 81 (fun _ => 0) ++ wAI K q3 9 (fun _ => 0) ++ wAI K q4 9 (fun _ => 0) ++ wAI K q5 9 (fun _ => 0) ++ wAI K q6 9 (fun _ => 0)) H := hP
  have hD : va_D A ([(h0, .inr (8, [.int 0, .int 0, .int 0, .int 0, .int 0, .int 0, .int 0, .int 0, .int 0, .int 0, .ref q1, .ref q2, .ref q3, .ref q4, .ref q5, .ref q6, .null, .null, .null]))] ++ wAI K q1 81 (fun _ => 0) ++ wAI K q2 81 (fun _ => 0) ++ wAI K q3 9 (fun _ => 0) ++ wAI K q4 9 (fun _ => 0) ++ wAI K q5 9 (fun _ => 0) ++ wAI K q6 9 (fun _ => 0)) := hD
  refine lv_aload_n hx hb dX9_init_52 rfl (lv_at hl 0 rfl) ?_
  refine lv_bipush (v := (9 : Int32)) hx hb dX9_init_53 (by decide) ?_
  refine nw_i hx hb (htl _ (mB3 _ (List.mem_of_getElem? (i := 3) rfl))) hK hP hD hS hA (n := (9 : Int32)) (N' := 9) (by decide) rfl (Nat.le_of_ble_eq_true rfl) (Nat.le_of_ble_eq_true rfl) (Nat.le_of_ble_eq_true rfl) dX9_init_55 (fun q7 H hP hD hS => ?_)
  have hP : va_P D vwCl ([(h0, .inr (8, [.int 0, .int 0, .int 0, .int 0, .int 0, .int 0, .int 0, .int 0, .int 0, .int 0, .ref q1, .ref q2, .ref q3, .ref q4, .ref q5, .ref q6, .null, .null, .null]))] ++ wAI K q1 81 (fun _ => 0) ++ wAI K q2 81 (fun _ => 0) ++ wAI K q3 9 (fun _ => 0) ++ wAI K q4 9 (fun _ => 0) ++ wAI K q5 9 (fun _ => 0) ++ wAI K q6 9 (fun _ => 0) ++ wAI K q7 9 (fun _ => 0)) H := hP
  have hD : va_D A ([(h0, .inr (8, [.int 0, .int 0, .int 0, .int 0, .int 0, .int 0, .int 0, .int 0, .int 0, .int 0, .ref q1, .ref q2, .ref q3, .ref q4, .ref q5, .ref q6, .null, .null, .null]))] ++ wAI K q1 81 (fun _ => 0) ++ wAI K q2 81 (fun _ => 0) ++ wAI K q3 9 (fun _ => 0) ++ wAI K q4 9 (fun _ => 0) ++ wAI K q5 9 (fun _ => 0) ++ wAI K q6 9 (fun _ => 0) ++ wAI K q7 9 (fun _ => 0)) := hD
  refine va_putF (D := D) (ci := 8) (v := .ref q7) (ty := .array .int) (C := RX9) (T := TX9) (N := 19) hx hb hts iX9 tyX9 tyX9_ok nmX9 hown hK hP hD hS 0 rfl rfl 16 (by decide) (htl _ (mB3 _ (List.mem_of_getElem? (i := 10) rfl))) (fun _ h9 => h9) rfl hin rfl (by decide +kernel) rfl rfl (Nat.le_of_ble_eq_true rfl) dX9_init_57 (fun H locs hP hD hS => ?_)
  have hP : va_P D vwCl ([(h0, .inr (8, [.int 0, .int 0, .int 0, .int 0, .int 0, .int 0, .int 0, .int 0, .int 0, .int 0, .ref q1, .ref q2, .ref q3, .ref q4, .ref q5, .ref q6, .ref q7, .null, .null]))] ++ wAI K q1 81 (fun _ => 0) ++ wAI K q2 81 (fun _ => 0) ++ wAI K q3 9 (fun _ => 0) ++ wAI K q4 9 (fun _ => 0) ++ wAI K q5 9 (fun _ => 0) ++ wAI K q6 9 (fun _ => 0) ++ wAI K q7 9 (fun _ => 0)) H := hP
  have hD : va_D A ([(h0, .inr (8, [.int 0, .int 0, .int 0, .int 0, .int 0, .int 0, .int 0, .int 0, .int 0, .int 0, .ref q1, .ref q2, .ref q3, .ref q4, .ref q5, .ref q6, .ref q7, .null, .null]))] ++ wAI K q1 81 (fun _ => 0) ++ wAI K q2 81 (fun _ => 0) ++ wAI K q3 9 (fun _ => 0) ++ wAI K q4 9 (fun _ => 0) ++ wAI K q5 9 (fun _ => 0) ++ wAI K q6 9 (fun _ => 0) ++ wAI K q7 9 (fun _ => 0)) := hD
  refine lv_aload_n hx hb dX9_init_60 rfl (lv_at hl 0 rfl) ?_
  refine lv_iconst (v := (5 : Int32)) hx hb dX9_init_61 (by decide) ?_
  refine nw_i hx hb (htl _ (mB3 _ (List.mem_of_getElem? (i := 3) rfl))) hK hP hD hS hA (n := (5 : Int32)) (N' := 5) (by decide) rfl (Nat.le_of_ble_eq_true rfl) (Nat.le_of_ble_eq_true rfl) (Nat.le_of_ble_eq_true rfl) dX9_init_62 (fun q8 H hP hD hS => ?_)
  have hP : va_P D vwCl ([(h0, .inr (8, [.int 0, .int 0, .int 0, .int 0, .int 0, .int 0, .int 0, .int 0, .int 0, .int 0, .ref q1, .ref q2, .ref q3, .ref q4, .ref q5, .ref q6, .ref q7, .null, .null]))] ++ wAI K q1 81 (fun _ => 0) ++ wAI K q2 81 (fun _ => 0) ++ wAI K q3 9 (fun _ => 0) ++ wAI K q4 9 (fun _ => 0) ++ wAI K q5 9 (fun _ => 0) ++ wAI K q6 9 (fun _ => 0) ++ wAI K q7 9 (fun _ => 0) ++ wAI K q8 5 (fun _ => 0)) H := hP
  have hD : va_D A ([(h0, .inr (8, [.int 0, .int 0, .int 0, .int 0, .int 0, .int 0, .int 0, .int 0, .int 0, .int 0, .ref q1, .ref q2, .ref q3, .ref q4, .ref q5, .ref q6, .ref q7, .null, .null]))] ++ wAI K q1 81 (fun _ => 0) ++ wAI K q2 81 (fun _ => 0) ++ wAI K q3 9 (fun _ => 0) ++ wAI K q4 9 (fun _ => 0) ++ wAI K q5 9 (fun _ => 0) ++ wAI K q6 9 (fun _ => 0) ++ wAI K q7 9 (fun _ => 0) ++ wAI K q8 5 (fun _ => 0)) := hD
  refine va_putF (D := D) (ci := 8) (v := .ref q8) (ty := .array .int) (C := RX9) (T := TX9) (N := 19) hx hb hts iX9 tyX9 tyX9_ok nmX9 hown hK hP hD hS 0 rfl rfl 17 (by decide) (htl _ (mB3 _ (List.mem_of_getElem? (i := 11) rfl))) (fun _ h9 => h9) rfl hin rfl (by decide +kernel) rfl rfl (Nat.le_of_ble_eq_true rfl) dX9_init_64 (fun H locs hP hD hS => ?_)
  have hP : va_P D vwCl ([(h0, .inr (8, [.int 0, .int 0, .int 0, .int 0, .int 0, .int 0, .int 0, .int 0, .int 0, .int 0, .ref q1, .ref q2, .ref q3, .ref q4, .ref q5, .ref q6, .ref q7, .ref q8, .null]))] ++ wAI K q1 81 (fun _ => 0) ++ wAI K q2 81 (fun _ => 0) ++ wAI K q3 9 (fun _ => 0) ++ wAI K q4 9 (fun _ => 0) ++ wAI K q5 9 (fun _ => 0) ++ wAI K q6 9 (fun _ => 0) ++ wAI K q7 9 (fun _ => 0) ++ wAI K q8 5 (fun _ => 0)) H := hP
  have hD : va_D A ([(h0, .inr (8, [.int 0, .int 0, .int 0, .int 0, .int 0, .int 0, .int 0, .int 0, .int 0, .int 0, .ref q1, .ref q2, .ref q3, .ref q4, .ref q5, .ref q6, .ref q7, .ref q8, .null]))] ++ wAI K q1 81 (fun _ => 0) ++ wAI K q2 81 (fun _ => 0) ++ wAI K q3 9 (fun _ => 0) ++ wAI K q4 9 (fun _ => 0) ++ wAI K q5 9 (fun _ => 0) ++ wAI K q6 9 (fun _ => 0) ++ wAI K q7 9 (fun _ => 0) ++ wAI K q8 5 (fun _ => 0)) := hD
  refine lv_aload_n hx hb dX9_init_67 rfl (lv_at hl 0 rfl) ?_
  refine lv_iconst (v := (5 : Int32)) hx hb dX9_init_68 (by decide) ?_
  refine nw_i hx hb (htl _ (mB3 _ (List.mem_of_getElem? (i := 3) rfl))) hK hP hD hS hA (n := (5 : Int32)) (N' := 5) (by decide) rfl (Nat.le_of_ble_eq_true rfl) (Nat.le_of_ble_eq_true rfl) (Nat.le_of_ble_eq_true rfl) dX9_init_69 (fun q9 H hP hD hS => ?_)
  have hP : va_P D vwCl ([(h0, .inr (8, [.int 0, .int 0, .int 0, .int 0, .int 0, .int 0, .int 0, .int 0, .int 0, .int 0, .ref q1, .ref q2, .ref q3, .ref q4, .ref q5, .ref q6, .ref q7, .ref q8, .null]))] ++ wAI K q1 81 (fun _ => 0) ++ wAI K q2 81 (fun _ => 0) ++ wAI K q3 9 (fun _ => 0) ++ wAI K q4 9 (fun _ => 0) ++ wAI K q5 9 (fun _ => 0) ++ wAI K q6 9 (fun _ => 0) ++ wAI K q7 9 (fun _ => 0) ++ wAI K q8 5 (fun _ => 0) ++ wAI K q9 5 (fun _ => 0)) H := hP
  have hD : va_D A ([(h0, .inr (8, [.int 0, .int 0, .int 0, .int 0, .int 0, .int 0, .int 0, .int 0, .int 0, .int 0, .ref q1, .ref q2, .ref q3, .ref q4, .ref q5, .ref q6, .ref q7, .ref q8, .null]))] ++ wAI K q1 81 (fun _ => 0) ++ wAI K q2 81 (fun _ => 0) ++ wAI K q3 9 (fun _ => 0) ++ wAI K q4 9 (fun _ => 0) ++ wAI K q5 9 (fun _ => 0) ++ wAI K q6 9 (fun _ => 0) ++ wAI K q7 9 (fun _ => 0) ++ wAI K q8 5 (fun _ => 0) ++ wAI K q9 5 (fun _ => 0)) := hD
  refine va_putF (D := D) (ci := 8) (v := .ref q9) (ty := .array .int) (C := RX9) (T := TX9) (N := 19) hx hb hts iX9 tyX9 tyX9_ok nmX9 hown hK hP hD hS 0 rfl rfl 18 (by decide) (htl _ (mB3 _ (List.mem_of_getElem? (i := 12) rfl))) (fun _ h9 => h9) rfl hin rfl (by decide +kernel) rfl rfl (Nat.le_of_ble_eq_true rfl) dX9_init_71 (fun H locs hP hD hS => ?_)
  have hP : va_P D vwCl ([(h0, .inr (8, [.int 0, .int 0, .int 0, .int 0, .int 0, .int 0, .int 0, .int 0, .int 0, .int 0, .ref q1, .ref q2, .ref q3, .ref q4, .ref q5, .ref q6, .ref q7, .ref q8, .ref q9]))] ++ wAI K q1 81 (fun _ => 0) ++ wAI K q2 81 (fun _ => 0) ++ wAI K q3 9 (fun _ => 0) ++ wAI K q4 9 (fun _ => 0) ++ wAI K q5 9 (fun _ => 0) ++ wAI K q6 9 (fun _ => 0) ++ wAI K q7 9 (fun _ => 0) ++ wAI K q8 5 (fun _ => 0) ++ wAI K q9 5 (fun _ => 0)) H := hP
  have hD : va_D A ([(h0, .inr (8, [.int 0, .int 0, .int 0, .int 0, .int 0, .int 0, .int 0, .int 0, .int 0, .int 0, .ref q1, .ref q2, .ref q3, .ref q4, .ref q5, .ref q6, .ref q7, .ref q8, .ref q9]))] ++ wAI K q1 81 (fun _ => 0) ++ wAI K q2 81 (fun _ => 0) ++ wAI K q3 9 (fun _ => 0) ++ wAI K q4 9 (fun _ => 0) ++ wAI K q5 9 (fun _ => 0) ++ wAI K q6 9 (fun _ => 0) ++ wAI K q7 9 (fun _ => 0) ++ wAI K q8 5 (fun _ => 0) ++ wAI K q9 5 (fun _ => 0)) := hD
  refine W.widen (k := 9) (n := 217) (Nat.le_of_ble_eq_true rfl) (Nat.le_of_ble_eq_true rfl) ?_
  obtain ⟨u, eu⟩ : ∃ u : Nat → Nat, u = (uN (uN (uN (uN (uN (uN (uN (uN (uN (uN (fun _ => 0) 10 q1) 11 q2) 12 q3) 13 q4) 14 q5) 15 q6) 16 q7) 17 q8) 18 q9) 99 h0) := ⟨_, rfl⟩
  have hP9 : va_P D vwCl (wRo K u z0) H := by rw [eu]; exact va_Psel hP [0, 1, 2, 3, 4, 5, 6, 7, 8, 9] rfl
  have hD9 : va_D A (wRo K u z0) := by rw [eu]; exact hD.sub [0, 1, 2, 3, 4, 5, 6, 7, 8, 9] (by decide) rfl
  have hu9 : u 99 = h0 := by rw [eu]; rfl
  exact W.vret hx hb hr (fun t ht hW => ⟨⟨u, rfl, hu9, by rw [ht]; exact hP9, va_K.moved hW.alike hK, hD9⟩, hS.F ht⟩) hS.2.2 dX9_init_74

def wz_X8_init : List Cond := .code yX8_init cX8_init 1 none :: wsL_law
abbrev r_X8_init : Room := { frames := 1, cells := 2, slots := 18, locals := 12 }
set_option maxHeartbeats 4000000 in
set_option maxRecDepth 100000 in
theorem c_X8_init (l : Launch) (D : va_G) (K : Nat → ClassId) (h0 sz : Nat) : Met l yX8_init wz_X8_init r_X8_init (va_Pc [.ref h0] (PWo D K [(h0, .inr (7, dfRe))] sz)) (va_Qv (fun u : Nat → Nat => u 99 = h0) (fun u t => BW D K (va_A ([(h0, .inr (7, dfRe))]) sz) (wRe K u z0) t) (va_A ([(h0, .inr (7, dfRe))]) sz)) 2 18 (va_A ([(h0, .inr (7, dfRe))]) sz) := by
  refine Met.ofW (cc := cX8_init) (maxL := 1) (ret := none) (by decide) rfl ?_
  intro p e s m args below meth c s₁ B hml hv
  obtain ⟨hargs, ⟨hsz, hP, hK, hD0⟩, hO⟩ := hv
  have hx := B.exec
  have hb := B.bytes
  have hr := B.returns
  have hts := atoms_spec (ws := wz_X8_init) B.pre
  have htl : ∀ w ∈ wsL_law, w.before args s = true := fun w h => hts w (List.mem_cons_of_mem _ h)
  have hown : s.vm.findClass RX8 = some m.cls := findClass_of_methodNamed B.named
  have hlocks := B.notSynchronized
  have hin : meth.name = "<init>" := (name_of_methodNamed B.named B.method).1
  subst hsz
  have hD := hD0.self (sz := s.heap.size)
  generalize hAe : va_A ([(h0, .inr (7, dfRe))]) s.heap.size = A at hD ⊢
  have hA : ∀ q : Nat, s.heap.size ≤ q → A q := fun q h => by rw [← hAe]; exact Or.inr h
  have hS : va_S A s.heap s.heap [] := va_S.rf
  have iX8 : ∀ w ∈ wsX80, w ∈ wz_X8_init := fun w h => List.mem_cons_of_mem _ (inlX8 w h)
  have hen : entryFrame m args 1 = entryFrame m (([.ref h0] : List Value).toArray) 1 := by rw [hargs]
  have hl := lv_entry ([.ref h0]) (n := 1) (Nat.le_of_ble_eq_true rfl)
  rw [hen, lg_entry_eq]
  generalize (lg_sl ([.ref h0]) ++ List.replicate (1 - (lg_sl ([.ref h0])).length) Slot.unset).toArray = ls at hl ⊢
  have hl : lv_has ls 1 [(0, .ref h0)] := hl
  have hP : va_P D vwCl [(h0, .inr (7, [.int 0, .int 0, .int 0, .long 0, .null, .int 0, .int 0, .null]))] s.heap := hP
  have hD : va_D A [(h0, .inr (7, [.int 0, .int 0, .int 0, .long 0, .null, .int 0, .int 0, .null]))] := hD
  refine lv_aload_n hx hb dX8_init_0 rfl (lv_at hl 0 rfl) ?_
  refine W.objInit hx hb hown (htl _ (mB5 _ (List.mem_of_getElem? (i := 4) rfl))) (htl _ (mB1 _ (List.mem_of_getElem? (i := 11) rfl))) (htl _ (mB1 _ (List.mem_of_getElem? (i := 12) rfl))) rfl (by rw [hml]; exact hl.1) rfl dX8_init_1 (Nat.le_of_ble_eq_true rfl) (Nat.le_of_ble_eq_true rfl) ?_
  refine W.eq (g2 := F0 m 4 ls []) rfl ?_
  refine lv_aload_n hx hb dX8_init_4 rfl (lv_at hl 0 rfl) ?_
  refine lv_bipush (v := (9 : Int32)) hx hb dX8_init_5 (by decide) ?_
  refine nw_i hx hb (htl _ (mB3 _ (List.mem_of_getElem? (i := 3) rfl))) hK hP hD hS hA (n := (9 : Int32)) (N' := 9) (by decide) rfl (Nat.le_of_ble_eq_true rfl) (Nat.le_of_ble_eq_true rfl) (Nat.le_of_ble_eq_true rfl) dX8_init_7 (fun q1 H hP hD hS => ?_)
  have hP : va_P D vwCl ([(h0, .inr (7, [.int 0, .int 0, .int 0, .long 0, .null, .int 0, .int 0, .null]))] ++ wAI K q1 9 (fun _ => 0)) H := hP
  have hD : va_D A ([(h0, .inr (7, [.int 0, .int 0, .int 0, .long 0, .null, .int 0, .int 0, .null]))] ++ wAI K q1 9 (fun _ => 0)) := hD
  refine va_putF (D := D) (ci := 7) (v := .ref q1) (ty := .array .int) (C := RX8) (T := TX8) (N := 8) hx hb hts iX8 tyX8 tyX8_ok nmX8 hown hK hP hD hS 0 rfl rfl 4 (by decide) (htl _ (mB5 _ (List.mem_of_getElem? (i := 5) rfl))) (fun _ h9 => h9) rfl hin rfl (by decide +kernel) rfl rfl (Nat.le_of_ble_eq_true rfl) dX8_init_9 (fun H locs hP hD hS => ?_)
  have hP : va_P D vwCl ([(h0, .inr (7, [.int 0, .int 0, .int 0, .long 0, .ref q1, .int 0, .int 0, .null]))] ++ wAI K q1 9 (fun _ => 0)) H := hP
  have hD : va_D A ([(h0, .inr (7, [.int 0, .int 0, .int 0, .long 0, .ref q1, .int 0, .int 0, .null]))] ++ wAI K q1 9 (fun _ => 0)) := hD
  refine lv_aload_n hx hb dX8_init_12 rfl (lv_at hl 0 rfl) ?_
  refine lv_bipush (v := (9 : Int32)) hx hb dX8_init_13 (by decide) ?_
  refine nw_i hx hb (htl _ (mB3 _ (List.mem_of_getElem? (i := 3) rfl))) hK hP hD hS hA (n := (9 : Int32)) (N' := 9) (by decide) rfl (Nat.le_of_ble_eq_true rfl) (Nat.le_of_ble_eq_true rfl) (Nat.le_of_ble_eq_true rfl) dX8_init_15 (fun q2 H hP hD hS => ?_)
  have hP : va_P D vwCl ([(h0, .inr (7, [.int 0, .int 0, .int 0, .long 0, .ref q1, .int 0, .int 0, .null]))] ++ wAI K q1 9 (fun _ => 0) ++ wAI K q2 9 (fun _ => 0)) H := hP
  have hD : va_D A ([(h0, .inr (7, [.int 0, .int 0, .int 0, .long 0, .ref q1, .int 0, .int 0, .null]))] ++ wAI K q1 9 (fun _ => 0) ++ wAI K q2 9 (fun _ => 0)) := hD
  refine va_putF (D := D) (ci := 7) (v := .ref q2) (ty := .array .int) (C := RX8) (T := TX8) (N := 8) hx hb hts iX8 tyX8 tyX8_ok nmX8 hown hK hP hD hS 0 rfl rfl 7 (by decide) (htl _ (mB5 _ (List.mem_of_getElem? (i := 6) rfl))) (fun _ h9 => h9) rfl hin rfl (by decide +kernel) rfl rfl (Nat.le_of_ble_eq_true rfl) dX8_init_17 (fun H locs hP hD hS => ?_)
  have hP : va_P D vwCl ([(h0, .inr (7, [.int 0, .int 0, .int 0, .long 0, .ref q1, .int 0, .int 0, .ref q2]))] ++ wAI K q1 9 (fun _ => 0) ++ wAI K q2 9 (fun _ => 0)) H := hP
  have hD : va_D A ([(h0, .inr (7, [.int 0, .int 0, .int 0, .long 0, .ref q1, .int 0, .int 0, .ref q2]))] ++ wAI K q1 9 (fun _ => 0) ++ wAI K q2 9 (fun _ => 0)) := hD
  refine W.widen (k := 2) (n := 18) (Nat.le_of_ble_eq_true rfl) (Nat.le_of_ble_eq_true rfl) ?_
  obtain ⟨u, eu⟩ : ∃ u : Nat → Nat, u = (uN (uN (uN (fun _ => 0) 4 q1) 7 q2) 99 h0) := ⟨_, rfl⟩
  have hP9 : va_P D vwCl (wRe K u z0) H := by rw [eu]; exact va_Psel hP [0, 1, 2] rfl
  have hD9 : va_D A (wRe K u z0) := by rw [eu]; exact hD.sub [0, 1, 2] (by decide) rfl
  have hu9 : u 99 = h0 := by rw [eu]; rfl
  exact W.vret hx hb hr (fun t ht hW => ⟨⟨u, rfl, hu9, by rw [ht]; exact hP9, va_K.moved hW.alike hK, hD9⟩, hS.F ht⟩) hS.2.2 dX8_init_20

def wz_X1_init : List Cond := .code yX1_init cX1_init 1 none :: wsL_law
abbrev r_X1_init : Room := { frames := 2, cells := 4, slots := 124, locals := 32 }
set_option maxHeartbeats 4000000 in
set_option maxRecDepth 100000 in
theorem c_X1_init (l : Launch) (D : va_G) (K : Nat → ClassId) (h0 sz : Nat) : Met l yX1_init wz_X1_init r_X1_init (va_Pc [.ref h0] (PWo D K [(h0, .inr (1, dfDr))] sz)) (va_Qv (fun u : (Nat → Nat) × Nat × Nat × (Nat → Nat) => u.1 99 = h0) (fun u t => BW D K (va_A ([(h0, .inr (1, dfDr))]) sz) (wDr K u.1 (u.2.2.2 99) u.2.1 u.2.2.1 z0 ++ wAI K u.2.1 41 (fun _ => 0) ++ wAI K u.2.2.1 41 (fun _ => 0) ++ wDw K u.2.2.2 z0) t) (va_A ([(h0, .inr (1, dfDr))]) sz)) 4 124 (va_A ([(h0, .inr (1, dfDr))]) sz) := by
  refine Met.ofW (cc := cX1_init) (maxL := 1) (ret := none) (by decide) rfl ?_
  intro p e s m args below meth c s₁ B hml hv
  obtain ⟨hargs, ⟨hsz, hP, hK, hD0⟩, hO⟩ := hv
  have hx := B.exec
  have hb := B.bytes
  have hr := B.returns
  have hts := atoms_spec (ws := wz_X1_init) B.pre
  have htl : ∀ w ∈ wsL_law, w.before args s = true := fun w h => hts w (List.mem_cons_of_mem _ h)
  have hown : s.vm.findClass RX1 = some m.cls := findClass_of_methodNamed B.named
  have hlocks := B.notSynchronized
  have hin : meth.name = "<init>" := (name_of_methodNamed B.named B.method).1
  subst hsz
  have hD := hD0.self (sz := s.heap.size)
  generalize hAe : va_A ([(h0, .inr (1, dfDr))]) s.heap.size = A at hD ⊢
  have hA : ∀ q : Nat, s.heap.size ≤ q → A q := fun q h => by rw [← hAe]; exact Or.inr h
  have hS : va_S A s.heap s.heap [] := va_S.rf
  have iX0 : ∀ w ∈ wsX00, w ∈ wz_X1_init := fun w h => List.mem_cons_of_mem _ (inlX0 w h)
  have iX1 : ∀ w ∈ wsX10, w ∈ wz_X1_init := fun w h => List.mem_cons_of_mem _ (inlX1 w h)
  have hen : entryFrame m args 1 = entryFrame m (([.ref h0] : List Value).toArray) 1 := by rw [hargs]
  have hl := lv_entry ([.ref h0]) (n := 1) (Nat.le_of_ble_eq_true rfl)
  rw [hen, lg_entry_eq]
  generalize (lg_sl ([.ref h0]) ++ List.replicate (1 - (lg_sl ([.ref h0])).length) Slot.unset).toArray = ls at hl ⊢
  have hl : lv_has ls 1 [(0, .ref h0)] := hl
  have hP : va_P D vwCl [(h0, .inr (1, [.int 0, .null, .null, .null, .null, .long 0]))] s.heap := hP
  have hD : va_D A [(h0, .inr (1, [.int 0, .null, .null, .null, .null, .long 0]))] := hD
  refine lv_aload_n hx hb dX1_init_0 rfl (lv_at hl 0 rfl) ?_
  refine W.objInit hx hb hown (htl _ (mB4 _ (List.mem_of_getElem? (i := 8) rfl))) (htl _ (mB1 _ (List.mem_of_getElem? (i := 11) rfl))) (htl _ (mB1 _ (List.mem_of_getElem? (i := 12) rfl))) rfl (by rw [hml]; exact hl.1) rfl dX1_init_1 (Nat.le_of_ble_eq_true rfl) (Nat.le_of_ble_eq_true rfl) ?_
  refine W.eq (g2 := F0 m 4 ls []) rfl ?_
  refine lv_aload_n hx hb dX1_init_4 rfl (lv_at hl 0 rfl) ?_
  refine va_new (ci := 0) (fs := dfDw) (C := RX0) (T := TX0) (N := 1) hx hb hts iX0 tyX0 tyX0_ok hown (htl _ (mB4 _ (List.mem_of_getElem? (i := 9) rfl))) (htl _ (mB4 _ (List.mem_of_getElem? (i := 10) rfl))) (htl _ (mB4 _ (List.mem_of_getElem? (i := 11) rfl))) hK hP hD hS hA rfl dfDw_ok (Nat.le_of_ble_eq_true rfl) (Nat.le_of_ble_eq_true rfl) dX1_init_5 (fun q1 H hP hD hS => ?_)
  have hP : va_P D vwCl ([(h0, .inr (1, [.int 0, .null, .null, .null, .null, .long 0]))] ++ [(q1, .inr (0, dfDw))]) H := hP
  have hD : va_D A ([(h0, .inr (1, [.int 0, .null, .null, .null, .null, .long 0]))] ++ [(q1, .inr (0, dfDw))]) := hD
  refine lv_dup hx hb dX1_init_8 rfl ?_
  refine rk_N (pre := [(h0, .inr (1, [.int 0, .null, .null, .null, .null, .long 0]))]) (last := [(q1, .inr (0, dfDw))]) (rest := [.ref q1, .ref h0]) ⟨hx, hb, hml, hown, hts⟩ (c_X0_init l D K q1 H.size) ⟨va_cnB 0 hts (gI (mB4 _ (List.mem_of_getElem? (i := 17) rfl))) rfl rfl rfl (hO.2 (RX1, 11, yX0_init, RX10) (List.mem_of_getElem? (i := 5) rfl)) (htl _ (mB4 _ (List.mem_of_getElem? (i := 11) rfl))) (by decide +kernel) ⟨(Nat.le_of_ble_eq_true rfl), (Nat.le_of_ble_eq_true rfl)⟩, rfl, (htl _ (mB4 _ (List.mem_of_getElem? (i := 16) rfl)))⟩ hK hO hP hD hS hA hl.1 rfl (Nat.le_of_ble_eq_true rfl) dX1_init_9 ⟨(Nat.le_of_ble_eq_true rfl), (Nat.le_of_ble_eq_true rfl)⟩ (fun u1 H locs hu hPn hDn hS => ?_)
  subst hu
  have hP := hPn
  have hD := hDn
  have hP : va_P D vwCl ([(h0, .inr (1, [.int 0, .null, .null, .null, .null, .long 0]))] ++ wDw K u1 z0) H := hP
  have hD : va_D A ([(h0, .inr (1, [.int 0, .null, .null, .null, .null, .long 0]))] ++ wDw K u1 z0) := hD
  refine va_putF (D := D) (ci := 1) (v := .ref (u1 99)) (ty := .object "LastsToNext$Draws") (C := RX1) (T := TX1) (N := 6) hx hb hts iX1 tyX1 tyX1_ok nmX1 hown hK hP hD hS 0 rfl rfl 1 (by decide) (htl _ (mB4 _ (List.mem_of_getElem? (i := 12) rfl))) (fun _ h9 => h9) rfl hin rfl (by decide +kernel) rfl rfl (Nat.le_of_ble_eq_true rfl) dX1_init_12 (fun H locs hP hD hS => ?_)
  have hP : va_P D vwCl ([(h0, .inr (1, [.int 0, .ref (u1 99), .null, .null, .null, .long 0]))] ++ wDw K u1 z0) H := hP
  have hD : va_D A ([(h0, .inr (1, [.int 0, .ref (u1 99), .null, .null, .null, .long 0]))] ++ wDw K u1 z0) := hD
  refine lv_aload_n hx hb dX1_init_15 rfl (lv_at hl 0 rfl) ?_
  refine lv_bipush (v := (41 : Int32)) hx hb dX1_init_16 (by decide) ?_
  refine nw_l hx hb (htl _ (mB1 _ (List.mem_of_getElem? (i := 6) rfl))) hK hP hD hS hA (n := (41 : Int32)) (N' := 41) (by decide) rfl (Nat.le_of_ble_eq_true rfl) (Nat.le_of_ble_eq_true rfl) (Nat.le_of_ble_eq_true rfl) dX1_init_18 (fun q2 H hP hD hS => ?_)
  have hP : va_P D vwCl ([(h0, .inr (1, [.int 0, .ref (u1 99), .null, .null, .null, .long 0]))] ++ wDw K u1 z0 ++ wAJ K q2 41 (fun _ => 0)) H := hP
  have hD : va_D A ([(h0, .inr (1, [.int 0, .ref (u1 99), .null, .null, .null, .long 0]))] ++ wDw K u1 z0 ++ wAJ K q2 41 (fun _ => 0)) := hD
  refine va_putF (D := D) (ci := 1) (v := .ref q2) (ty := .array .long) (C := RX1) (T := TX1) (N := 6) hx hb hts iX1 tyX1 tyX1_ok nmX1 hown hK hP hD hS 0 rfl rfl 2 (by decide) (htl _ (mB4 _ (List.mem_of_getElem? (i := 13) rfl))) (fun _ h9 => h9) rfl hin rfl (by decide +kernel) rfl rfl (Nat.le_of_ble_eq_true rfl) dX1_init_20 (fun H locs hP hD hS => ?_)
  have hP : va_P D vwCl ([(h0, .inr (1, [.int 0, .ref (u1 99), .ref q2, .null, .null, .long 0]))] ++ wDw K u1 z0 ++ wAJ K q2 41 (fun _ => 0)) H := hP
  have hD : va_D A ([(h0, .inr (1, [.int 0, .ref (u1 99), .ref q2, .null, .null, .long 0]))] ++ wDw K u1 z0 ++ wAJ K q2 41 (fun _ => 0)) := hD
  refine lv_aload_n hx hb dX1_init_23 rfl (lv_at hl 0 rfl) ?_
  refine lv_bipush (v := (41 : Int32)) hx hb dX1_init_24 (by decide) ?_
  refine nw_i hx hb (htl _ (mB3 _ (List.mem_of_getElem? (i := 3) rfl))) hK hP hD hS hA (n := (41 : Int32)) (N' := 41) (by decide) rfl (Nat.le_of_ble_eq_true rfl) (Nat.le_of_ble_eq_true rfl) (Nat.le_of_ble_eq_true rfl) dX1_init_26 (fun q3 H hP hD hS => ?_)
  have hP : va_P D vwCl ([(h0, .inr (1, [.int 0, .ref (u1 99), .ref q2, .null, .null, .long 0]))] ++ wDw K u1 z0 ++ wAJ K q2 41 (fun _ => 0) ++ wAI K q3 41 (fun _ => 0)) H := hP
  have hD : va_D A ([(h0, .inr (1, [.int 0, .ref (u1 99), .ref q2, .null, .null, .long 0]))] ++ wDw K u1 z0 ++ wAJ K q2 41 (fun _ => 0) ++ wAI K q3 41 (fun _ => 0)) := hD
  refine va_putF (D := D) (ci := 1) (v := .ref q3) (ty := .array .int) (C := RX1) (T := TX1) (N := 6) hx hb hts iX1 tyX1 tyX1_ok nmX1 hown hK hP hD hS 0 rfl rfl 3 (by decide) (htl _ (mB4 _ (List.mem_of_getElem? (i := 14) rfl))) (fun _ h9 => h9) rfl hin rfl (by decide +kernel) rfl rfl (Nat.le_of_ble_eq_true rfl) dX1_init_28 (fun H locs hP hD hS => ?_)
  have hP : va_P D vwCl ([(h0, .inr (1, [.int 0, .ref (u1 99), .ref q2, .ref q3, .null, .long 0]))] ++ wDw K u1 z0 ++ wAJ K q2 41 (fun _ => 0) ++ wAI K q3 41 (fun _ => 0)) H := hP
  have hD : va_D A ([(h0, .inr (1, [.int 0, .ref (u1 99), .ref q2, .ref q3, .null, .long 0]))] ++ wDw K u1 z0 ++ wAJ K q2 41 (fun _ => 0) ++ wAI K q3 41 (fun _ => 0)) := hD
  refine lv_aload_n hx hb dX1_init_31 rfl (lv_at hl 0 rfl) ?_
  refine lv_bipush (v := (41 : Int32)) hx hb dX1_init_32 (by decide) ?_
  refine nw_i hx hb (htl _ (mB3 _ (List.mem_of_getElem? (i := 3) rfl))) hK hP hD hS hA (n := (41 : Int32)) (N' := 41) (by decide) rfl (Nat.le_of_ble_eq_true rfl) (Nat.le_of_ble_eq_true rfl) (Nat.le_of_ble_eq_true rfl) dX1_init_34 (fun q4 H hP hD hS => ?_)
  have hP : va_P D vwCl ([(h0, .inr (1, [.int 0, .ref (u1 99), .ref q2, .ref q3, .null, .long 0]))] ++ wDw K u1 z0 ++ wAJ K q2 41 (fun _ => 0) ++ wAI K q3 41 (fun _ => 0) ++ wAI K q4 41 (fun _ => 0)) H := hP
  have hD : va_D A ([(h0, .inr (1, [.int 0, .ref (u1 99), .ref q2, .ref q3, .null, .long 0]))] ++ wDw K u1 z0 ++ wAJ K q2 41 (fun _ => 0) ++ wAI K q3 41 (fun _ => 0) ++ wAI K q4 41 (fun _ => 0)) := hD
  refine va_putF (D := D) (ci := 1) (v := .ref q4) (ty := .array .int) (C := RX1) (T := TX1) (N := 6) hx hb hts iX1 tyX1 tyX1_ok nmX1 hown hK hP hD hS 0 rfl rfl 4 (by decide) (htl _ (mB4 _ (List.mem_of_getElem? (i := 15) rfl))) (fun _ h9 => h9) rfl hin rfl (by decide +kernel) rfl rfl (Nat.le_of_ble_eq_true rfl) dX1_init_36 (fun H locs hP hD hS => ?_)
  have hP : va_P D vwCl ([(h0, .inr (1, [.int 0, .ref (u1 99), .ref q2, .ref q3, .ref q4, .long 0]))] ++ wDw K u1 z0 ++ wAJ K q2 41 (fun _ => 0) ++ wAI K q3 41 (fun _ => 0) ++ wAI K q4 41 (fun _ => 0)) H := hP
  have hD : va_D A ([(h0, .inr (1, [.int 0, .ref (u1 99), .ref q2, .ref q3, .ref q4, .long 0]))] ++ wDw K u1 z0 ++ wAJ K q2 41 (fun _ => 0) ++ wAI K q3 41 (fun _ => 0) ++ wAI K q4 41 (fun _ => 0)) := hD
  refine W.widen (k := 4) (n := 124) (Nat.le_of_ble_eq_true rfl) (Nat.le_of_ble_eq_true rfl) ?_
  obtain ⟨u, eu⟩ : ∃ u : (Nat → Nat) × Nat × Nat × (Nat → Nat), u = ((uN (uN (fun _ => 0) 2 q2) 99 h0), q3, q4, u1) := ⟨_, rfl⟩
  have hP9 : va_P D vwCl (wDr K u.1 (u.2.2.2 99) u.2.1 u.2.2.1 z0 ++ wAI K u.2.1 41 (fun _ => 0) ++ wAI K u.2.2.1 41 (fun _ => 0) ++ wDw K u.2.2.2 z0) H := by rw [eu]; exact va_Psel hP [0, 2, 3, 4, 1] rfl
  have hD9 : va_D A (wDr K u.1 (u.2.2.2 99) u.2.1 u.2.2.1 z0 ++ wAI K u.2.1 41 (fun _ => 0) ++ wAI K u.2.2.1 41 (fun _ => 0) ++ wDw K u.2.2.2 z0) := by rw [eu]; exact hD.sub [0, 2, 3, 4, 1] (by decide) rfl
  have hu9 : u.1 99 = h0 := by rw [eu]; rfl
  exact W.vret hx hb hr (fun t ht hW => ⟨⟨u, rfl, hu9, by rw [ht]; exact hP9, va_K.moved hW.alike hK, hD9⟩, hS.F ht⟩) hS.2.2 dX1_init_39

def wz_X3_init : List Cond := .code yX3_init cX3_init 1 none :: wsL_law
abbrev r_X3_init : Room := { frames := 2, cells := 19, slots := 128, locals := 32 }
set_option maxHeartbeats 4000000 in
set_option maxRecDepth 100000 in
theorem c_X3_init (l : Launch) (D : va_G) (K : Nat → ClassId) (h0 sz : Nat) : Met l yX3_init wz_X3_init r_X3_init (va_Pc [.ref h0] (PWo D K [(h0, .inr (3, dfJo))] sz)) (va_Qv (fun u : (Nat → Nat) × (Nat → Nat) × (Nat → Nat) × (Nat → Nat) => u.1 99 = h0) (fun u t => BW D K (va_A ([(h0, .inr (3, dfJo))]) sz) (wJo K u.1 (u.2.2.2 99) u.2.1 u.2.2.1 z0 ++ wJk K u.2.1 z0 ++ wJi K u.2.2.1 z0 ++ wDw K u.2.2.2 z0) t) (va_A ([(h0, .inr (3, dfJo))]) sz)) 19 128 (va_A ([(h0, .inr (3, dfJo))]) sz) := by
  refine Met.ofW (cc := cX3_init) (maxL := 1) (ret := none) (by decide) rfl ?_
  intro p e s m args below meth c s₁ B hml hv
  obtain ⟨hargs, ⟨hsz, hP, hK, hD0⟩, hO⟩ := hv
  have hx := B.exec
  have hb := B.bytes
  have hr := B.returns
  have hts := atoms_spec (ws := wz_X3_init) B.pre
  have htl : ∀ w ∈ wsL_law, w.before args s = true := fun w h => hts w (List.mem_cons_of_mem _ h)
  have hown : s.vm.findClass RX3 = some m.cls := findClass_of_methodNamed B.named
  have hlocks := B.notSynchronized
  have hin : meth.name = "<init>" := (name_of_methodNamed B.named B.method).1
  subst hsz
  have hD := hD0.self (sz := s.heap.size)
  generalize hAe : va_A ([(h0, .inr (3, dfJo))]) s.heap.size = A at hD ⊢
  have hA : ∀ q : Nat, s.heap.size ≤ q → A q := fun q h => by rw [← hAe]; exact Or.inr h
  have hS : va_S A s.heap s.heap [] := va_S.rf
  have iX0 : ∀ w ∈ wsX00, w ∈ wz_X3_init := fun w h => List.mem_cons_of_mem _ (inlX0 w h)
  have iX3 : ∀ w ∈ wsX30, w ∈ wz_X3_init := fun w h => List.mem_cons_of_mem _ (inlX3 w h)
  have hen : entryFrame m args 1 = entryFrame m (([.ref h0] : List Value).toArray) 1 := by rw [hargs]
  have hl := lv_entry ([.ref h0]) (n := 1) (Nat.le_of_ble_eq_true rfl)
  rw [hen, lg_entry_eq]
  generalize (lg_sl ([.ref h0]) ++ List.replicate (1 - (lg_sl ([.ref h0])).length) Slot.unset).toArray = ls at hl ⊢
  have hl : lv_has ls 1 [(0, .ref h0)] := hl
  have hP : va_P D vwCl [(h0, .inr (3, [.null, .int 0, .int 0, .int 0, .null, .null, .null]))] s.heap := hP
  have hD : va_D A [(h0, .inr (3, [.null, .int 0, .int 0, .int 0, .null, .null, .null]))] := hD
  refine lv_aload_n hx hb dX3_init_0 rfl (lv_at hl 0 rfl) ?_
  refine W.objInit hx hb hown (htl _ (mB5 _ (List.mem_of_getElem? (i := 9) rfl))) (htl _ (mB1 _ (List.mem_of_getElem? (i := 11) rfl))) (htl _ (mB1 _ (List.mem_of_getElem? (i := 12) rfl))) rfl (by rw [hml]; exact hl.1) rfl dX3_init_1 (Nat.le_of_ble_eq_true rfl) (Nat.le_of_ble_eq_true rfl) ?_
  refine W.eq (g2 := F0 m 4 ls []) rfl ?_
  refine lv_aload_n hx hb dX3_init_4 rfl (lv_at hl 0 rfl) ?_
  refine lv_bipush (v := (7 : Int32)) hx hb dX3_init_5 (by decide) ?_
  refine nw_i hx hb (htl _ (mB3 _ (List.mem_of_getElem? (i := 3) rfl))) hK hP hD hS hA (n := (7 : Int32)) (N' := 7) (by decide) rfl (Nat.le_of_ble_eq_true rfl) (Nat.le_of_ble_eq_true rfl) (Nat.le_of_ble_eq_true rfl) dX3_init_7 (fun q1 H hP hD hS => ?_)
  have hP : va_P D vwCl ([(h0, .inr (3, [.null, .int 0, .int 0, .int 0, .null, .null, .null]))] ++ wAI K q1 7 (fun _ => 0)) H := hP
  have hD : va_D A ([(h0, .inr (3, [.null, .int 0, .int 0, .int 0, .null, .null, .null]))] ++ wAI K q1 7 (fun _ => 0)) := hD
  refine va_putF (D := D) (ci := 3) (v := .ref q1) (ty := .array .int) (C := RX3) (T := TX3) (N := 7) hx hb hts iX3 tyX3 tyX3_ok nmX3 hown hK hP hD hS 0 rfl rfl 0 (by decide) (htl _ (mB5 _ (List.mem_of_getElem? (i := 10) rfl))) (fun _ h9 => h9) rfl hin rfl (by decide +kernel) rfl rfl (Nat.le_of_ble_eq_true rfl) dX3_init_9 (fun H locs hP hD hS => ?_)
  have hP : va_P D vwCl ([(h0, .inr (3, [.ref q1, .int 0, .int 0, .int 0, .null, .null, .null]))] ++ wAI K q1 7 (fun _ => 0)) H := hP
  have hD : va_D A ([(h0, .inr (3, [.ref q1, .int 0, .int 0, .int 0, .null, .null, .null]))] ++ wAI K q1 7 (fun _ => 0)) := hD
  refine lv_aload_n hx hb dX3_init_12 rfl (lv_at hl 0 rfl) ?_
  refine lv_bipush (v := (12 : Int32)) hx hb dX3_init_13 (by decide) ?_
  refine lv_bipush (v := (7 : Int32)) hx hb dX3_init_15 (by decide) ?_
  refine nm_i hx hb hown (htl _ (mB5 _ (List.mem_of_getElem? (i := 11) rfl))) hO.1.1 (htl _ (mB3 _ (List.mem_of_getElem? (i := 3) rfl))) hK hP hD hS hA (n := (12 : Int32)) (k := (7 : Int32)) (N' := 12) (M' := 7) (by decide) (by decide) rfl rfl (Nat.le_of_ble_eq_true rfl) (Nat.le_of_ble_eq_true rfl) (Nat.le_of_ble_eq_true rfl) (Nat.le_of_ble_eq_true rfl) (Nat.le_of_ble_eq_true rfl) dX3_init_17 (fun q2 rq2 H hP hD hS => ?_)
  have hP : va_P D vwCl ([(h0, .inr (3, [.ref q1, .int 0, .int 0, .int 0, .null, .null, .null]))] ++ wAI K q1 7 (fun _ => 0) ++ wOu (K 3) q2 12 rq2 ++ wRw 12 rq2 (.inl (K 0, 7, .inl fun _ => 0))) H := hP
  have hD : va_D A ([(h0, .inr (3, [.ref q1, .int 0, .int 0, .int 0, .null, .null, .null]))] ++ wAI K q1 7 (fun _ => 0) ++ wOu (K 3) q2 12 rq2 ++ wRw 12 rq2 (.inl (K 0, 7, .inl fun _ => 0))) := hD
  refine va_putF (D := D) (ci := 3) (v := .ref q2) (ty := .array (.array .int)) (C := RX3) (T := TX3) (N := 7) hx hb hts iX3 tyX3 tyX3_ok nmX3 hown hK hP hD hS 0 rfl rfl 4 (by decide) (htl _ (mB5 _ (List.mem_of_getElem? (i := 12) rfl))) (fun _ h9 => h9) rfl hin rfl (by decide +kernel) rfl rfl (Nat.le_of_ble_eq_true rfl) dX3_init_21 (fun H locs hP hD hS => ?_)
  have hP : va_P D vwCl ([(h0, .inr (3, [.ref q1, .int 0, .int 0, .int 0, .ref q2, .null, .null]))] ++ wAI K q1 7 (fun _ => 0) ++ wOu (K 3) q2 12 rq2 ++ wRw 12 rq2 (.inl (K 0, 7, .inl fun _ => 0))) H := hP
  have hD : va_D A ([(h0, .inr (3, [.ref q1, .int 0, .int 0, .int 0, .ref q2, .null, .null]))] ++ wAI K q1 7 (fun _ => 0) ++ wOu (K 3) q2 12 rq2 ++ wRw 12 rq2 (.inl (K 0, 7, .inl fun _ => 0))) := hD
  refine lv_aload_n hx hb dX3_init_24 rfl (lv_at hl 0 rfl) ?_
  refine lv_iconst (v := (3 : Int32)) hx hb dX3_init_25 (by decide) ?_
  refine lv_bipush (v := (7 : Int32)) hx hb dX3_init_26 (by decide) ?_
  refine nm_i hx hb hown (htl _ (mB5 _ (List.mem_of_getElem? (i := 11) rfl))) hO.1.1 (htl _ (mB3 _ (List.mem_of_getElem? (i := 3) rfl))) hK hP hD hS hA (n := (3 : Int32)) (k := (7 : Int32)) (N' := 3) (M' := 7) (by decide) (by decide) rfl rfl (Nat.le_of_ble_eq_true rfl) (Nat.le_of_ble_eq_true rfl) (Nat.le_of_ble_eq_true rfl) (Nat.le_of_ble_eq_true rfl) (Nat.le_of_ble_eq_true rfl) dX3_init_28 (fun q3 rq3 H hP hD hS => ?_)
  have hP : va_P D vwCl ([(h0, .inr (3, [.ref q1, .int 0, .int 0, .int 0, .ref q2, .null, .null]))] ++ wAI K q1 7 (fun _ => 0) ++ wOu (K 3) q2 12 rq2 ++ wRw 12 rq2 (.inl (K 0, 7, .inl fun _ => 0)) ++ wOu (K 3) q3 3 rq3 ++ wRw 3 rq3 (.inl (K 0, 7, .inl fun _ => 0))) H := hP
  have hD : va_D A ([(h0, .inr (3, [.ref q1, .int 0, .int 0, .int 0, .ref q2, .null, .null]))] ++ wAI K q1 7 (fun _ => 0) ++ wOu (K 3) q2 12 rq2 ++ wRw 12 rq2 (.inl (K 0, 7, .inl fun _ => 0)) ++ wOu (K 3) q3 3 rq3 ++ wRw 3 rq3 (.inl (K 0, 7, .inl fun _ => 0))) := hD
  refine va_putF (D := D) (ci := 3) (v := .ref q3) (ty := .array (.array .int)) (C := RX3) (T := TX3) (N := 7) hx hb hts iX3 tyX3 tyX3_ok nmX3 hown hK hP hD hS 0 rfl rfl 5 (by decide) (htl _ (mB5 _ (List.mem_of_getElem? (i := 13) rfl))) (fun _ h9 => h9) rfl hin rfl (by decide +kernel) rfl rfl (Nat.le_of_ble_eq_true rfl) dX3_init_32 (fun H locs hP hD hS => ?_)
  have hP : va_P D vwCl ([(h0, .inr (3, [.ref q1, .int 0, .int 0, .int 0, .ref q2, .ref q3, .null]))] ++ wAI K q1 7 (fun _ => 0) ++ wOu (K 3) q2 12 rq2 ++ wRw 12 rq2 (.inl (K 0, 7, .inl fun _ => 0)) ++ wOu (K 3) q3 3 rq3 ++ wRw 3 rq3 (.inl (K 0, 7, .inl fun _ => 0))) H := hP
  have hD : va_D A ([(h0, .inr (3, [.ref q1, .int 0, .int 0, .int 0, .ref q2, .ref q3, .null]))] ++ wAI K q1 7 (fun _ => 0) ++ wOu (K 3) q2 12 rq2 ++ wRw 12 rq2 (.inl (K 0, 7, .inl fun _ => 0)) ++ wOu (K 3) q3 3 rq3 ++ wRw 3 rq3 (.inl (K 0, 7, .inl fun _ => 0))) := hD
  refine lv_aload_n hx hb dX3_init_35 rfl (lv_at hl 0 rfl) ?_
  refine va_new (ci := 0) (fs := dfDw) (C := RX0) (T := TX0) (N := 1) hx hb hts iX0 tyX0 tyX0_ok hown (htl _ (mB5 _ (List.mem_of_getElem? (i := 14) rfl))) (htl _ (mB4 _ (List.mem_of_getElem? (i := 10) rfl))) (htl _ (mB4 _ (List.mem_of_getElem? (i := 11) rfl))) hK hP hD hS hA rfl dfDw_ok (Nat.le_of_ble_eq_true rfl) (Nat.le_of_ble_eq_true rfl) dX3_init_36 (fun q4 H hP hD hS => ?_)
  have hP : va_P D vwCl ([(h0, .inr (3, [.ref q1, .int 0, .int 0, .int 0, .ref q2, .ref q3, .null]))] ++ wAI K q1 7 (fun _ => 0) ++ wOu (K 3) q2 12 rq2 ++ wRw 12 rq2 (.inl (K 0, 7, .inl fun _ => 0)) ++ wOu (K 3) q3 3 rq3 ++ wRw 3 rq3 (.inl (K 0, 7, .inl fun _ => 0)) ++ [(q4, .inr (0, dfDw))]) H := hP
  have hD : va_D A ([(h0, .inr (3, [.ref q1, .int 0, .int 0, .int 0, .ref q2, .ref q3, .null]))] ++ wAI K q1 7 (fun _ => 0) ++ wOu (K 3) q2 12 rq2 ++ wRw 12 rq2 (.inl (K 0, 7, .inl fun _ => 0)) ++ wOu (K 3) q3 3 rq3 ++ wRw 3 rq3 (.inl (K 0, 7, .inl fun _ => 0)) ++ [(q4, .inr (0, dfDw))]) := hD
  refine lv_dup hx hb dX3_init_39 rfl ?_
  refine rk_N (pre := [(h0, .inr (3, [.ref q1, .int 0, .int 0, .int 0, .ref q2, .ref q3, .null]))] ++ wAI K q1 7 (fun _ => 0) ++ wOu (K 3) q2 12 rq2 ++ wRw 12 rq2 (.inl (K 0, 7, .inl fun _ => 0)) ++ wOu (K 3) q3 3 rq3 ++ wRw 3 rq3 (.inl (K 0, 7, .inl fun _ => 0))) (last := [(q4, .inr (0, dfDw))]) (rest := [.ref q4, .ref h0]) ⟨hx, hb, hml, hown, hts⟩ (c_X0_init l D K q4 H.size) ⟨va_cnB 0 hts (gI (mB4 _ (List.mem_of_getElem? (i := 17) rfl))) rfl rfl rfl (hO.2 (RX3, 25, yX0_init, RX10) (List.mem_of_getElem? (i := 9) rfl)) (htl _ (mB4 _ (List.mem_of_getElem? (i := 11) rfl))) (by decide +kernel) ⟨(Nat.le_of_ble_eq_true rfl), (Nat.le_of_ble_eq_true rfl)⟩, rfl, (htl _ (mB4 _ (List.mem_of_getElem? (i := 16) rfl)))⟩ hK hO hP hD hS hA hl.1 rfl (Nat.le_of_ble_eq_true rfl) dX3_init_40 ⟨(Nat.le_of_ble_eq_true rfl), (Nat.le_of_ble_eq_true rfl)⟩ (fun u4 H locs hu hPn hDn hS => ?_)
  subst hu
  have hP := hPn
  have hD := hDn
  have hP : va_P D vwCl ([(h0, .inr (3, [.ref q1, .int 0, .int 0, .int 0, .ref q2, .ref q3, .null]))] ++ wAI K q1 7 (fun _ => 0) ++ wOu (K 3) q2 12 rq2 ++ wRw 12 rq2 (.inl (K 0, 7, .inl fun _ => 0)) ++ wOu (K 3) q3 3 rq3 ++ wRw 3 rq3 (.inl (K 0, 7, .inl fun _ => 0)) ++ wDw K u4 z0) H := hP
  have hD : va_D A ([(h0, .inr (3, [.ref q1, .int 0, .int 0, .int 0, .ref q2, .ref q3, .null]))] ++ wAI K q1 7 (fun _ => 0) ++ wOu (K 3) q2 12 rq2 ++ wRw 12 rq2 (.inl (K 0, 7, .inl fun _ => 0)) ++ wOu (K 3) q3 3 rq3 ++ wRw 3 rq3 (.inl (K 0, 7, .inl fun _ => 0)) ++ wDw K u4 z0) := hD
  refine va_putF (D := D) (ci := 3) (v := .ref (u4 99)) (ty := .object "LastsToNext$Draws") (C := RX3) (T := TX3) (N := 7) hx hb hts iX3 tyX3 tyX3_ok nmX3 hown hK hP hD hS 0 rfl rfl 6 (by decide) (htl _ (mB5 _ (List.mem_of_getElem? (i := 15) rfl))) (fun _ h9 => h9) rfl hin rfl (by decide +kernel) rfl rfl (Nat.le_of_ble_eq_true rfl) dX3_init_43 (fun H locs hP hD hS => ?_)
  have hP : va_P D vwCl ([(h0, .inr (3, [.ref q1, .int 0, .int 0, .int 0, .ref q2, .ref q3, .ref (u4 99)]))] ++ wAI K q1 7 (fun _ => 0) ++ wOu (K 3) q2 12 rq2 ++ wRw 12 rq2 (.inl (K 0, 7, .inl fun _ => 0)) ++ wOu (K 3) q3 3 rq3 ++ wRw 3 rq3 (.inl (K 0, 7, .inl fun _ => 0)) ++ wDw K u4 z0) H := hP
  have hD : va_D A ([(h0, .inr (3, [.ref q1, .int 0, .int 0, .int 0, .ref q2, .ref q3, .ref (u4 99)]))] ++ wAI K q1 7 (fun _ => 0) ++ wOu (K 3) q2 12 rq2 ++ wRw 12 rq2 (.inl (K 0, 7, .inl fun _ => 0)) ++ wOu (K 3) q3 3 rq3 ++ wRw 3 rq3 (.inl (K 0, 7, .inl fun _ => 0)) ++ wDw K u4 z0) := hD
  refine W.widen (k := 19) (n := 128) (Nat.le_of_ble_eq_true rfl) (Nat.le_of_ble_eq_true rfl) ?_
  obtain ⟨u, eu⟩ : ∃ u : (Nat → Nat) × (Nat → Nat) × (Nat → Nat) × (Nat → Nat), u = ((uN (uN (uN (uN (fun _ => 0) 0 q1) 4 q2) 5 q3) 99 h0), rq2, rq3, u4) := ⟨_, rfl⟩
  have hP9 : va_P D vwCl (wJo K u.1 (u.2.2.2 99) u.2.1 u.2.2.1 z0 ++ wJk K u.2.1 z0 ++ wJi K u.2.2.1 z0 ++ wDw K u.2.2.2 z0) H := by rw [eu]; exact va_Psel hP [0, 1, 2, 15, 3, 4, 5, 6, 7, 8, 9, 10, 11, 12, 13, 14, 16, 17, 18, 19] rfl
  have hD9 : va_D A (wJo K u.1 (u.2.2.2 99) u.2.1 u.2.2.1 z0 ++ wJk K u.2.1 z0 ++ wJi K u.2.2.1 z0 ++ wDw K u.2.2.2 z0) := by rw [eu]; exact hD.sub [0, 1, 2, 15, 3, 4, 5, 6, 7, 8, 9, 10, 11, 12, 13, 14, 16, 17, 18, 19] (by decide) rfl
  have hu9 : u.1 99 = h0 := by rw [eu]; rfl
  exact W.vret hx hb hr (fun t ht hW => ⟨⟨u, rfl, hu9, by rw [ht]; exact hP9, va_K.moved hW.alike hK, hD9⟩, hS.F ht⟩) hS.2.2 dX3_init_46

def wz_X5_init : List Cond := .code yX5_init cX5_init 1 none :: wsL_law
abbrev r_X5_init : Room := { frames := 1, cells := 12, slots := 428, locals := 12 }
set_option maxHeartbeats 4000000 in
set_option maxRecDepth 100000 in
theorem c_X5_init (l : Launch) (D : va_G) (K : Nat → ClassId) (h0 sz : Nat) : Met l yX5_init wz_X5_init r_X5_init (va_Pc [.ref h0] (PWo D K [(h0, .inr (4, dfNe))] sz)) (va_Qv (fun u : (Nat → Nat) × (Nat → Nat) => u.1 99 = h0) (fun u t => BW D K (va_A ([(h0, .inr (4, dfNe))]) sz) (wNe K u.1 u.2 z0 ++ wNc K u.2 z0) t) (va_A ([(h0, .inr (4, dfNe))]) sz)) 12 428 (va_A ([(h0, .inr (4, dfNe))]) sz) := by
  refine Met.ofW (cc := cX5_init) (maxL := 1) (ret := none) (by decide) rfl ?_
  intro p e s m args below meth c s₁ B hml hv
  obtain ⟨hargs, ⟨hsz, hP, hK, hD0⟩, hO⟩ := hv
  have hx := B.exec
  have hb := B.bytes
  have hr := B.returns
  have hts := atoms_spec (ws := wz_X5_init) B.pre
  have htl : ∀ w ∈ wsL_law, w.before args s = true := fun w h => hts w (List.mem_cons_of_mem _ h)
  have hown : s.vm.findClass RX5 = some m.cls := findClass_of_methodNamed B.named
  have hlocks := B.notSynchronized
  have hin : meth.name = "<init>" := (name_of_methodNamed B.named B.method).1
  subst hsz
  have hD := hD0.self (sz := s.heap.size)
  generalize hAe : va_A ([(h0, .inr (4, dfNe))]) s.heap.size = A at hD ⊢
  have hA : ∀ q : Nat, s.heap.size ≤ q → A q := fun q h => by rw [← hAe]; exact Or.inr h
  have hS : va_S A s.heap s.heap [] := va_S.rf
  have iX5 : ∀ w ∈ wsX50, w ∈ wz_X5_init := fun w h => List.mem_cons_of_mem _ (inlX5 w h)
  have hen : entryFrame m args 1 = entryFrame m (([.ref h0] : List Value).toArray) 1 := by rw [hargs]
  have hl := lv_entry ([.ref h0]) (n := 1) (Nat.le_of_ble_eq_true rfl)
  rw [hen, lg_entry_eq]
  generalize (lg_sl ([.ref h0]) ++ List.replicate (1 - (lg_sl ([.ref h0])).length) Slot.unset).toArray = ls at hl ⊢
  have hl : lv_has ls 1 [(0, .ref h0)] := hl
  have hP : va_P D vwCl [(h0, .inr (4, [.null, .null, .null]))] s.heap := hP
  have hD : va_D A [(h0, .inr (4, [.null, .null, .null]))] := hD
  refine lv_aload_n hx hb dX5_init_0 rfl (lv_at hl 0 rfl) ?_
  refine W.objInit hx hb hown (htl _ (mB4 _ (List.mem_of_getElem? (i := 21) rfl))) (htl _ (mB1 _ (List.mem_of_getElem? (i := 11) rfl))) (htl _ (mB1 _ (List.mem_of_getElem? (i := 12) rfl))) rfl (by rw [hml]; exact hl.1) rfl dX5_init_1 (Nat.le_of_ble_eq_true rfl) (Nat.le_of_ble_eq_true rfl) ?_
  refine W.eq (g2 := F0 m 4 ls []) rfl ?_
  refine lv_aload_n hx hb dX5_init_4 rfl (lv_at hl 0 rfl) ?_
  refine lv_bipush (v := (9 : Int32)) hx hb dX5_init_5 (by decide) ?_
  refine lv_bipush (v := (41 : Int32)) hx hb dX5_init_7 (by decide) ?_
  refine nm_i hx hb hown (htl _ (mB4 _ (List.mem_of_getElem? (i := 22) rfl))) hO.1.1 (htl _ (mB3 _ (List.mem_of_getElem? (i := 3) rfl))) hK hP hD hS hA (n := (9 : Int32)) (k := (41 : Int32)) (N' := 9) (M' := 41) (by decide) (by decide) rfl rfl (Nat.le_of_ble_eq_true rfl) (Nat.le_of_ble_eq_true rfl) (Nat.le_of_ble_eq_true rfl) (Nat.le_of_ble_eq_true rfl) (Nat.le_of_ble_eq_true rfl) dX5_init_9 (fun q1 rq1 H hP hD hS => ?_)
  have hP : va_P D vwCl ([(h0, .inr (4, [.null, .null, .null]))] ++ wOu (K 3) q1 9 rq1 ++ wRw 9 rq1 (.inl (K 0, 41, .inl fun _ => 0))) H := hP
  have hD : va_D A ([(h0, .inr (4, [.null, .null, .null]))] ++ wOu (K 3) q1 9 rq1 ++ wRw 9 rq1 (.inl (K 0, 41, .inl fun _ => 0))) := hD
  refine va_putF (D := D) (ci := 4) (v := .ref q1) (ty := .array (.array .int)) (C := RX5) (T := TX5) (N := 3) hx hb hts iX5 tyX5 tyX5_ok nmX5 hown hK hP hD hS 0 rfl rfl 0 (by decide) (htl _ (mB4 _ (List.mem_of_getElem? (i := 23) rfl))) (fun _ h9 => h9) rfl hin rfl (by decide +kernel) rfl rfl (Nat.le_of_ble_eq_true rfl) dX5_init_13 (fun H locs hP hD hS => ?_)
  have hP : va_P D vwCl ([(h0, .inr (4, [.ref q1, .null, .null]))] ++ wOu (K 3) q1 9 rq1 ++ wRw 9 rq1 (.inl (K 0, 41, .inl fun _ => 0))) H := hP
  have hD : va_D A ([(h0, .inr (4, [.ref q1, .null, .null]))] ++ wOu (K 3) q1 9 rq1 ++ wRw 9 rq1 (.inl (K 0, 41, .inl fun _ => 0))) := hD
  refine lv_aload_n hx hb dX5_init_16 rfl (lv_at hl 0 rfl) ?_
  refine lv_bipush (v := (41 : Int32)) hx hb dX5_init_17 (by decide) ?_
  refine nw_i hx hb (htl _ (mB3 _ (List.mem_of_getElem? (i := 3) rfl))) hK hP hD hS hA (n := (41 : Int32)) (N' := 41) (by decide) rfl (Nat.le_of_ble_eq_true rfl) (Nat.le_of_ble_eq_true rfl) (Nat.le_of_ble_eq_true rfl) dX5_init_19 (fun q2 H hP hD hS => ?_)
  have hP : va_P D vwCl ([(h0, .inr (4, [.ref q1, .null, .null]))] ++ wOu (K 3) q1 9 rq1 ++ wRw 9 rq1 (.inl (K 0, 41, .inl fun _ => 0)) ++ wAI K q2 41 (fun _ => 0)) H := hP
  have hD : va_D A ([(h0, .inr (4, [.ref q1, .null, .null]))] ++ wOu (K 3) q1 9 rq1 ++ wRw 9 rq1 (.inl (K 0, 41, .inl fun _ => 0)) ++ wAI K q2 41 (fun _ => 0)) := hD
  refine va_putF (D := D) (ci := 4) (v := .ref q2) (ty := .array .int) (C := RX5) (T := TX5) (N := 3) hx hb hts iX5 tyX5 tyX5_ok nmX5 hown hK hP hD hS 0 rfl rfl 1 (by decide) (htl _ (mB5 _ (List.mem_of_getElem? (i := 0) rfl))) (fun _ h9 => h9) rfl hin rfl (by decide +kernel) rfl rfl (Nat.le_of_ble_eq_true rfl) dX5_init_21 (fun H locs hP hD hS => ?_)
  have hP : va_P D vwCl ([(h0, .inr (4, [.ref q1, .ref q2, .null]))] ++ wOu (K 3) q1 9 rq1 ++ wRw 9 rq1 (.inl (K 0, 41, .inl fun _ => 0)) ++ wAI K q2 41 (fun _ => 0)) H := hP
  have hD : va_D A ([(h0, .inr (4, [.ref q1, .ref q2, .null]))] ++ wOu (K 3) q1 9 rq1 ++ wRw 9 rq1 (.inl (K 0, 41, .inl fun _ => 0)) ++ wAI K q2 41 (fun _ => 0)) := hD
  refine lv_aload_n hx hb dX5_init_24 rfl (lv_at hl 0 rfl) ?_
  refine lv_bipush (v := (9 : Int32)) hx hb dX5_init_25 (by decide) ?_
  refine nw_i hx hb (htl _ (mB3 _ (List.mem_of_getElem? (i := 3) rfl))) hK hP hD hS hA (n := (9 : Int32)) (N' := 9) (by decide) rfl (Nat.le_of_ble_eq_true rfl) (Nat.le_of_ble_eq_true rfl) (Nat.le_of_ble_eq_true rfl) dX5_init_27 (fun q3 H hP hD hS => ?_)
  have hP : va_P D vwCl ([(h0, .inr (4, [.ref q1, .ref q2, .null]))] ++ wOu (K 3) q1 9 rq1 ++ wRw 9 rq1 (.inl (K 0, 41, .inl fun _ => 0)) ++ wAI K q2 41 (fun _ => 0) ++ wAI K q3 9 (fun _ => 0)) H := hP
  have hD : va_D A ([(h0, .inr (4, [.ref q1, .ref q2, .null]))] ++ wOu (K 3) q1 9 rq1 ++ wRw 9 rq1 (.inl (K 0, 41, .inl fun _ => 0)) ++ wAI K q2 41 (fun _ => 0) ++ wAI K q3 9 (fun _ => 0)) := hD
  refine va_putF (D := D) (ci := 4) (v := .ref q3) (ty := .array .int) (C := RX5) (T := TX5) (N := 3) hx hb hts iX5 tyX5 tyX5_ok nmX5 hown hK hP hD hS 0 rfl rfl 2 (by decide) (htl _ (mB5 _ (List.mem_of_getElem? (i := 1) rfl))) (fun _ h9 => h9) rfl hin rfl (by decide +kernel) rfl rfl (Nat.le_of_ble_eq_true rfl) dX5_init_29 (fun H locs hP hD hS => ?_)
  have hP : va_P D vwCl ([(h0, .inr (4, [.ref q1, .ref q2, .ref q3]))] ++ wOu (K 3) q1 9 rq1 ++ wRw 9 rq1 (.inl (K 0, 41, .inl fun _ => 0)) ++ wAI K q2 41 (fun _ => 0) ++ wAI K q3 9 (fun _ => 0)) H := hP
  have hD : va_D A ([(h0, .inr (4, [.ref q1, .ref q2, .ref q3]))] ++ wOu (K 3) q1 9 rq1 ++ wRw 9 rq1 (.inl (K 0, 41, .inl fun _ => 0)) ++ wAI K q2 41 (fun _ => 0) ++ wAI K q3 9 (fun _ => 0)) := hD
  refine W.widen (k := 12) (n := 428) (Nat.le_of_ble_eq_true rfl) (Nat.le_of_ble_eq_true rfl) ?_
  obtain ⟨u, eu⟩ : ∃ u : (Nat → Nat) × (Nat → Nat), u = ((uN (uN (uN (uN (fun _ => 0) 0 q1) 1 q2) 2 q3) 99 h0), rq1) := ⟨_, rfl⟩
  have hP9 : va_P D vwCl (wNe K u.1 u.2 z0 ++ wNc K u.2 z0) H := by rw [eu]; exact va_Psel hP [0, 1, 11, 12, 2, 3, 4, 5, 6, 7, 8, 9, 10] rfl
  have hD9 : va_D A (wNe K u.1 u.2 z0 ++ wNc K u.2 z0) := by rw [eu]; exact hD.sub [0, 1, 11, 12, 2, 3, 4, 5, 6, 7, 8, 9, 10] (by decide) rfl
  have hu9 : u.1 99 = h0 := by rw [eu]; rfl
  exact W.vret hx hb hr (fun t ht hW => ⟨⟨u, rfl, hu9, by rw [ht]; exact hP9, va_K.moved hW.alike hK, hD9⟩, hS.F ht⟩) hS.2.2 dX5_init_32

def wz_X6_init : List Cond := .code yX6_init cX6_init 1 none :: wsL_law
abbrev r_X6_init : Room := { frames := 1, cells := 23, slots := 848, locals := 12 }
set_option maxHeartbeats 4000000 in
set_option maxRecDepth 100000 in
theorem c_X6_init (l : Launch) (D : va_G) (K : Nat → ClassId) (h0 sz : Nat) : Met l yX6_init wz_X6_init r_X6_init (va_Pc [.ref h0] (PWo D K [(h0, .inr (5, dfPl))] sz)) (va_Qv (fun u : (Nat → Nat) × (Nat → Nat) × (Nat → Nat) => u.1 99 = h0) (fun u t => BW D K (va_A ([(h0, .inr (5, dfPl))]) sz) (wPl K u.1 u.2.1 u.2.2 z0 ++ wPc K u.2.1 z0 ++ wPb K u.2.2 z0) t) (va_A ([(h0, .inr (5, dfPl))]) sz)) 23 848 (va_A ([(h0, .inr (5, dfPl))]) sz) := by
  refine Met.ofW (cc := cX6_init) (maxL := 1) (ret := none) (by decide) rfl ?_
  intro p e s m args below meth c s₁ B hml hv
  obtain ⟨hargs, ⟨hsz, hP, hK, hD0⟩, hO⟩ := hv
  have hx := B.exec
  have hb := B.bytes
  have hr := B.returns
  have hts := atoms_spec (ws := wz_X6_init) B.pre
  have htl : ∀ w ∈ wsL_law, w.before args s = true := fun w h => hts w (List.mem_cons_of_mem _ h)
  have hown : s.vm.findClass RX6 = some m.cls := findClass_of_methodNamed B.named
  have hlocks := B.notSynchronized
  have hin : meth.name = "<init>" := (name_of_methodNamed B.named B.method).1
  subst hsz
  have hD := hD0.self (sz := s.heap.size)
  generalize hAe : va_A ([(h0, .inr (5, dfPl))]) s.heap.size = A at hD ⊢
  have hA : ∀ q : Nat, s.heap.size ≤ q → A q := fun q h => by rw [← hAe]; exact Or.inr h
  have hS : va_S A s.heap s.heap [] := va_S.rf
  have iX6 : ∀ w ∈ wsX60, w ∈ wz_X6_init := fun w h => List.mem_cons_of_mem _ (inlX6 w h)
  have hen : entryFrame m args 1 = entryFrame m (([.ref h0] : List Value).toArray) 1 := by rw [hargs]
  have hl := lv_entry ([.ref h0]) (n := 1) (Nat.le_of_ble_eq_true rfl)
  rw [hen, lg_entry_eq]
  generalize (lg_sl ([.ref h0]) ++ List.replicate (1 - (lg_sl ([.ref h0])).length) Slot.unset).toArray = ls at hl ⊢
  have hl : lv_has ls 1 [(0, .ref h0)] := hl
  have hP : va_P D vwCl [(h0, .inr (5, [.null, .null, .null, .null]))] s.heap := hP
  have hD : va_D A [(h0, .inr (5, [.null, .null, .null, .null]))] := hD
  refine lv_aload_n hx hb dX6_init_0 rfl (lv_at hl 0 rfl) ?_
  refine W.objInit hx hb hown (htl _ (mB3 _ (List.mem_of_getElem? (i := 23) rfl))) (htl _ (mB1 _ (List.mem_of_getElem? (i := 11) rfl))) (htl _ (mB1 _ (List.mem_of_getElem? (i := 12) rfl))) rfl (by rw [hml]; exact hl.1) rfl dX6_init_1 (Nat.le_of_ble_eq_true rfl) (Nat.le_of_ble_eq_true rfl) ?_
  refine W.eq (g2 := F0 m 4 ls []) rfl ?_
  refine lv_aload_n hx hb dX6_init_4 rfl (lv_at hl 0 rfl) ?_
  refine lv_bipush (v := (9 : Int32)) hx hb dX6_init_5 (by decide) ?_
  refine nw_i hx hb (htl _ (mB3 _ (List.mem_of_getElem? (i := 3) rfl))) hK hP hD hS hA (n := (9 : Int32)) (N' := 9) (by decide) rfl (Nat.le_of_ble_eq_true rfl) (Nat.le_of_ble_eq_true rfl) (Nat.le_of_ble_eq_true rfl) dX6_init_7 (fun q1 H hP hD hS => ?_)
  have hP : va_P D vwCl ([(h0, .inr (5, [.null, .null, .null, .null]))] ++ wAI K q1 9 (fun _ => 0)) H := hP
  have hD : va_D A ([(h0, .inr (5, [.null, .null, .null, .null]))] ++ wAI K q1 9 (fun _ => 0)) := hD
  refine va_putF (D := D) (ci := 5) (v := .ref q1) (ty := .array .int) (C := RX6) (T := TX6) (N := 4) hx hb hts iX6 tyX6 tyX6_ok nmX6 hown hK hP hD hS 0 rfl rfl 0 (by decide) (htl _ (mB4 _ (List.mem_of_getElem? (i := 0) rfl))) (fun _ h9 => h9) rfl hin rfl (by decide +kernel) rfl rfl (Nat.le_of_ble_eq_true rfl) dX6_init_9 (fun H locs hP hD hS => ?_)
  have hP : va_P D vwCl ([(h0, .inr (5, [.ref q1, .null, .null, .null]))] ++ wAI K q1 9 (fun _ => 0)) H := hP
  have hD : va_D A ([(h0, .inr (5, [.ref q1, .null, .null, .null]))] ++ wAI K q1 9 (fun _ => 0)) := hD
  refine lv_aload_n hx hb dX6_init_12 rfl (lv_at hl 0 rfl) ?_
  refine lv_bipush (v := (41 : Int32)) hx hb dX6_init_13 (by decide) ?_
  refine nw_l hx hb (htl _ (mB1 _ (List.mem_of_getElem? (i := 6) rfl))) hK hP hD hS hA (n := (41 : Int32)) (N' := 41) (by decide) rfl (Nat.le_of_ble_eq_true rfl) (Nat.le_of_ble_eq_true rfl) (Nat.le_of_ble_eq_true rfl) dX6_init_15 (fun q2 H hP hD hS => ?_)
  have hP : va_P D vwCl ([(h0, .inr (5, [.ref q1, .null, .null, .null]))] ++ wAI K q1 9 (fun _ => 0) ++ wAJ K q2 41 (fun _ => 0)) H := hP
  have hD : va_D A ([(h0, .inr (5, [.ref q1, .null, .null, .null]))] ++ wAI K q1 9 (fun _ => 0) ++ wAJ K q2 41 (fun _ => 0)) := hD
  refine va_putF (D := D) (ci := 5) (v := .ref q2) (ty := .array .long) (C := RX6) (T := TX6) (N := 4) hx hb hts iX6 tyX6 tyX6_ok nmX6 hown hK hP hD hS 0 rfl rfl 1 (by decide) (htl _ (mB4 _ (List.mem_of_getElem? (i := 1) rfl))) (fun _ h9 => h9) rfl hin rfl (by decide +kernel) rfl rfl (Nat.le_of_ble_eq_true rfl) dX6_init_17 (fun H locs hP hD hS => ?_)
  have hP : va_P D vwCl ([(h0, .inr (5, [.ref q1, .ref q2, .null, .null]))] ++ wAI K q1 9 (fun _ => 0) ++ wAJ K q2 41 (fun _ => 0)) H := hP
  have hD : va_D A ([(h0, .inr (5, [.ref q1, .ref q2, .null, .null]))] ++ wAI K q1 9 (fun _ => 0) ++ wAJ K q2 41 (fun _ => 0)) := hD
  refine lv_aload_n hx hb dX6_init_20 rfl (lv_at hl 0 rfl) ?_
  refine lv_bipush (v := (9 : Int32)) hx hb dX6_init_21 (by decide) ?_
  refine lv_bipush (v := (41 : Int32)) hx hb dX6_init_23 (by decide) ?_
  refine nm_i hx hb hown (htl _ (mB4 _ (List.mem_of_getElem? (i := 2) rfl))) hO.1.1 (htl _ (mB3 _ (List.mem_of_getElem? (i := 3) rfl))) hK hP hD hS hA (n := (9 : Int32)) (k := (41 : Int32)) (N' := 9) (M' := 41) (by decide) (by decide) rfl rfl (Nat.le_of_ble_eq_true rfl) (Nat.le_of_ble_eq_true rfl) (Nat.le_of_ble_eq_true rfl) (Nat.le_of_ble_eq_true rfl) (Nat.le_of_ble_eq_true rfl) dX6_init_25 (fun q3 rq3 H hP hD hS => ?_)
  have hP : va_P D vwCl ([(h0, .inr (5, [.ref q1, .ref q2, .null, .null]))] ++ wAI K q1 9 (fun _ => 0) ++ wAJ K q2 41 (fun _ => 0) ++ wOu (K 3) q3 9 rq3 ++ wRw 9 rq3 (.inl (K 0, 41, .inl fun _ => 0))) H := hP
  have hD : va_D A ([(h0, .inr (5, [.ref q1, .ref q2, .null, .null]))] ++ wAI K q1 9 (fun _ => 0) ++ wAJ K q2 41 (fun _ => 0) ++ wOu (K 3) q3 9 rq3 ++ wRw 9 rq3 (.inl (K 0, 41, .inl fun _ => 0))) := hD
  refine va_putF (D := D) (ci := 5) (v := .ref q3) (ty := .array (.array .int)) (C := RX6) (T := TX6) (N := 4) hx hb hts iX6 tyX6 tyX6_ok nmX6 hown hK hP hD hS 0 rfl rfl 2 (by decide) (htl _ (mB4 _ (List.mem_of_getElem? (i := 3) rfl))) (fun _ h9 => h9) rfl hin rfl (by decide +kernel) rfl rfl (Nat.le_of_ble_eq_true rfl) dX6_init_29 (fun H locs hP hD hS => ?_)
  have hP : va_P D vwCl ([(h0, .inr (5, [.ref q1, .ref q2, .ref q3, .null]))] ++ wAI K q1 9 (fun _ => 0) ++ wAJ K q2 41 (fun _ => 0) ++ wOu (K 3) q3 9 rq3 ++ wRw 9 rq3 (.inl (K 0, 41, .inl fun _ => 0))) H := hP
  have hD : va_D A ([(h0, .inr (5, [.ref q1, .ref q2, .ref q3, .null]))] ++ wAI K q1 9 (fun _ => 0) ++ wAJ K q2 41 (fun _ => 0) ++ wOu (K 3) q3 9 rq3 ++ wRw 9 rq3 (.inl (K 0, 41, .inl fun _ => 0))) := hD
  refine lv_aload_n hx hb dX6_init_32 rfl (lv_at hl 0 rfl) ?_
  refine lv_bipush (v := (10 : Int32)) hx hb dX6_init_33 (by decide) ?_
  refine lv_bipush (v := (41 : Int32)) hx hb dX6_init_35 (by decide) ?_
  refine nm_l hx hb hown (htl _ (mB4 _ (List.mem_of_getElem? (i := 4) rfl))) hO.1.2 (htl _ (mB1 _ (List.mem_of_getElem? (i := 6) rfl))) hK hP hD hS hA (n := (10 : Int32)) (k := (41 : Int32)) (N' := 10) (M' := 41) (by decide) (by decide) rfl rfl (Nat.le_of_ble_eq_true rfl) (Nat.le_of_ble_eq_true rfl) (Nat.le_of_ble_eq_true rfl) (Nat.le_of_ble_eq_true rfl) (Nat.le_of_ble_eq_true rfl) dX6_init_37 (fun q4 rq4 H hP hD hS => ?_)
  have hP : va_P D vwCl ([(h0, .inr (5, [.ref q1, .ref q2, .ref q3, .null]))] ++ wAI K q1 9 (fun _ => 0) ++ wAJ K q2 41 (fun _ => 0) ++ wOu (K 3) q3 9 rq3 ++ wRw 9 rq3 (.inl (K 0, 41, .inl fun _ => 0)) ++ wOu (K 4) q4 10 rq4 ++ wRw 10 rq4 (.inl (K 1, 41, .inr (.inl fun _ => 0)))) H := hP
  have hD : va_D A ([(h0, .inr (5, [.ref q1, .ref q2, .ref q3, .null]))] ++ wAI K q1 9 (fun _ => 0) ++ wAJ K q2 41 (fun _ => 0) ++ wOu (K 3) q3 9 rq3 ++ wRw 9 rq3 (.inl (K 0, 41, .inl fun _ => 0)) ++ wOu (K 4) q4 10 rq4 ++ wRw 10 rq4 (.inl (K 1, 41, .inr (.inl fun _ => 0)))) := hD
  refine va_putF (D := D) (ci := 5) (v := .ref q4) (ty := .array (.array .long)) (C := RX6) (T := TX6) (N := 4) hx hb hts iX6 tyX6 tyX6_ok nmX6 hown hK hP hD hS 0 rfl rfl 3 (by decide) (htl _ (mB4 _ (List.mem_of_getElem? (i := 5) rfl))) (fun _ h9 => h9) rfl hin rfl (by decide +kernel) rfl rfl (Nat.le_of_ble_eq_true rfl) dX6_init_41 (fun H locs hP hD hS => ?_)
  have hP : va_P D vwCl ([(h0, .inr (5, [.ref q1, .ref q2, .ref q3, .ref q4]))] ++ wAI K q1 9 (fun _ => 0) ++ wAJ K q2 41 (fun _ => 0) ++ wOu (K 3) q3 9 rq3 ++ wRw 9 rq3 (.inl (K 0, 41, .inl fun _ => 0)) ++ wOu (K 4) q4 10 rq4 ++ wRw 10 rq4 (.inl (K 1, 41, .inr (.inl fun _ => 0)))) H := hP
  have hD : va_D A ([(h0, .inr (5, [.ref q1, .ref q2, .ref q3, .ref q4]))] ++ wAI K q1 9 (fun _ => 0) ++ wAJ K q2 41 (fun _ => 0) ++ wOu (K 3) q3 9 rq3 ++ wRw 9 rq3 (.inl (K 0, 41, .inl fun _ => 0)) ++ wOu (K 4) q4 10 rq4 ++ wRw 10 rq4 (.inl (K 1, 41, .inr (.inl fun _ => 0)))) := hD
  refine W.widen (k := 23) (n := 848) (Nat.le_of_ble_eq_true rfl) (Nat.le_of_ble_eq_true rfl) ?_
  obtain ⟨u, eu⟩ : ∃ u : (Nat → Nat) × (Nat → Nat) × (Nat → Nat), u = ((uN (uN (uN (uN (uN (fun _ => 0) 0 q1) 1 q2) 2 q3) 3 q4) 99 h0), rq3, rq4) := ⟨_, rfl⟩
  have hP9 : va_P D vwCl (wPl K u.1 u.2.1 u.2.2 z0 ++ wPc K u.2.1 z0 ++ wPb K u.2.2 z0) H := by rw [eu]; exact va_Psel hP [0, 1, 2, 3, 13, 4, 5, 6, 7, 8, 9, 10, 11, 12, 14, 15, 16, 17, 18, 19, 20, 21, 22, 23] rfl
  have hD9 : va_D A (wPl K u.1 u.2.1 u.2.2 z0 ++ wPc K u.2.1 z0 ++ wPb K u.2.2 z0) := by rw [eu]; exact hD.sub [0, 1, 2, 3, 13, 4, 5, 6, 7, 8, 9, 10, 11, 12, 14, 15, 16, 17, 18, 19, 20, 21, 22, 23] (by decide) rfl
  have hu9 : u.1 99 = h0 := by rw [eu]; rfl
  exact W.vret hx hb hr (fun t ht hW => ⟨⟨u, rfl, hu9, by rw [ht]; exact hP9, va_K.moved hW.alike hK, hD9⟩, hS.F ht⟩) hS.2.2 dX6_init_44

def wz_X7_init : List Cond := .code yX7_init cX7_init 1 none :: wsL_law
abbrev r_X7_init : Room := { frames := 2, cells := 13, slots := 254, locals := 32 }
set_option maxHeartbeats 4000000 in
set_option maxRecDepth 100000 in
theorem c_X7_init (l : Launch) (D : va_G) (K : Nat → ClassId) (h0 sz : Nat) : Met l yX7_init wz_X7_init r_X7_init (va_Pc [.ref h0] (PWo D K [(h0, .inr (6, dfRd))] sz)) (va_Qv (fun u : (Nat → Nat) × Nat × Nat => u.1 99 = h0) (fun u t => BW D K (va_A ([(h0, .inr (6, dfRd))]) sz) (wRd K u.1 u.2.1 u.2.2 z0) t) (va_A ([(h0, .inr (6, dfRd))]) sz)) 13 254 (va_A ([(h0, .inr (6, dfRd))]) sz) := by
  refine Met.ofW (cc := cX7_init) (maxL := 1) (ret := none) (by decide) rfl ?_
  intro p e s m args below meth c s₁ B hml hv
  obtain ⟨hargs, ⟨hsz, hP, hK, hD0⟩, hO⟩ := hv
  have hx := B.exec
  have hb := B.bytes
  have hr := B.returns
  have hts := atoms_spec (ws := wz_X7_init) B.pre
  have htl : ∀ w ∈ wsL_law, w.before args s = true := fun w h => hts w (List.mem_cons_of_mem _ h)
  have hown : s.vm.findClass RX7 = some m.cls := findClass_of_methodNamed B.named
  have hlocks := B.notSynchronized
  have hin : meth.name = "<init>" := (name_of_methodNamed B.named B.method).1
  subst hsz
  have hD := hD0.self (sz := s.heap.size)
  generalize hAe : va_A ([(h0, .inr (6, dfRd))]) s.heap.size = A at hD ⊢
  have hA : ∀ q : Nat, s.heap.size ≤ q → A q := fun q h => by rw [← hAe]; exact Or.inr h
  have hS : va_S A s.heap s.heap [] := va_S.rf
  have iX7 : ∀ w ∈ wsX70, w ∈ wz_X7_init := fun w h => List.mem_cons_of_mem _ (inlX7 w h)
  have iX9 : ∀ w ∈ wsX90, w ∈ wz_X7_init := fun w h => List.mem_cons_of_mem _ (inlX9 w h)
  have hen : entryFrame m args 1 = entryFrame m (([.ref h0] : List Value).toArray) 1 := by rw [hargs]
  have hl := lv_entry ([.ref h0]) (n := 1) (Nat.le_of_ble_eq_true rfl)
  rw [hen, lg_entry_eq]
  generalize (lg_sl ([.ref h0]) ++ List.replicate (1 - (lg_sl ([.ref h0])).length) Slot.unset).toArray = ls at hl ⊢
  have hl : lv_has ls 1 [(0, .ref h0)] := hl
  have hP : va_P D vwCl [(h0, .inr (6, [.int 0, .int 0, .null, .int 0, .null, .int 0, .int 0, .int 0, .int 0, .null, .null]))] s.heap := hP
  have hD : va_D A [(h0, .inr (6, [.int 0, .int 0, .null, .int 0, .null, .int 0, .int 0, .int 0, .int 0, .null, .null]))] := hD
  refine lv_aload_n hx hb dX7_init_0 rfl (lv_at hl 0 rfl) ?_
  refine W.objInit hx hb hown (htl _ (mB3 _ (List.mem_of_getElem? (i := 15) rfl))) (htl _ (mB1 _ (List.mem_of_getElem? (i := 11) rfl))) (htl _ (mB1 _ (List.mem_of_getElem? (i := 12) rfl))) rfl (by rw [hml]; exact hl.1) rfl dX7_init_1 (Nat.le_of_ble_eq_true rfl) (Nat.le_of_ble_eq_true rfl) ?_
  refine W.eq (g2 := F0 m 4 ls []) rfl ?_
  refine lv_aload_n hx hb dX7_init_4 rfl (lv_at hl 0 rfl) ?_
  refine lv_iconst (v := (0 : Int32)) hx hb dX7_init_5 (by decide) ?_
  refine nw_b hx hb (htl _ (mB1 _ (List.mem_of_getElem? (i := 13) rfl))) hK hP hD hS hA (n := (0 : Int32)) (N' := 0) (by decide) rfl (Nat.le_of_ble_eq_true rfl) (Nat.le_of_ble_eq_true rfl) (Nat.le_of_ble_eq_true rfl) dX7_init_6 (fun q1 H hP hD hS => ?_)
  have hP : va_P D vwCl ([(h0, .inr (6, [.int 0, .int 0, .null, .int 0, .null, .int 0, .int 0, .int 0, .int 0, .null, .null]))] ++ wAB K q1 0 (fun _ => 0)) H := hP
  have hD : va_D A ([(h0, .inr (6, [.int 0, .int 0, .null, .int 0, .null, .int 0, .int 0, .int 0, .int 0, .null, .null]))] ++ wAB K q1 0 (fun _ => 0)) := hD
  refine va_put (D := D) (ci := 6) (v := .ref q1) (ty := .array .byte) (C := RX7) (T := TX7) (N := 11) hx hb hts iX7 tyX7 tyX7_ok nmX7 hown hK hP hD hS 0 rfl rfl 2 (by decide) (htl _ (mB3 _ (List.mem_of_getElem? (i := 16) rfl))) (fun _ h9 => h9) rfl (by decide +kernel) rfl rfl (Nat.le_of_ble_eq_true rfl) dX7_init_8 (fun H locs hP hD hS => ?_)
  have hP : va_P D vwCl ([(h0, .inr (6, [.int 0, .int 0, .ref q1, .int 0, .null, .int 0, .int 0, .int 0, .int 0, .null, .null]))] ++ wAB K q1 0 (fun _ => 0)) H := hP
  have hD : va_D A ([(h0, .inr (6, [.int 0, .int 0, .ref q1, .int 0, .null, .int 0, .int 0, .int 0, .int 0, .null, .null]))] ++ wAB K q1 0 (fun _ => 0)) := hD
  refine lv_aload_n hx hb dX7_init_11 rfl (lv_at hl 0 rfl) ?_
  refine va_new (ci := 8) (fs := dfRo) (C := RX9) (T := TX9) (N := 19) hx hb hts iX9 tyX9 tyX9_ok hown (htl _ (mB3 _ (List.mem_of_getElem? (i := 17) rfl))) (htl _ (mB1 _ (List.mem_of_getElem? (i := 16) rfl))) (htl _ (mB1 _ (List.mem_of_getElem? (i := 17) rfl))) hK hP hD hS hA rfl dfRo_ok (Nat.le_of_ble_eq_true rfl) (Nat.le_of_ble_eq_true rfl) dX7_init_12 (fun q2 H hP hD hS => ?_)
  have hP : va_P D vwCl ([(h0, .inr (6, [.int 0, .int 0, .ref q1, .int 0, .null, .int 0, .int 0, .int 0, .int 0, .null, .null]))] ++ wAB K q1 0 (fun _ => 0) ++ [(q2, .inr (8, dfRo))]) H := hP
  have hD : va_D A ([(h0, .inr (6, [.int 0, .int 0, .ref q1, .int 0, .null, .int 0, .int 0, .int 0, .int 0, .null, .null]))] ++ wAB K q1 0 (fun _ => 0) ++ [(q2, .inr (8, dfRo))]) := hD
  refine lv_dup hx hb dX7_init_15 rfl ?_
  refine rk_N (pre := [(h0, .inr (6, [.int 0, .int 0, .ref q1, .int 0, .null, .int 0, .int 0, .int 0, .int 0, .null, .null]))] ++ wAB K q1 0 (fun _ => 0)) (last := [(q2, .inr (8, dfRo))]) (rest := [.ref q2, .ref h0]) ⟨hx, hb, hml, hown, hts⟩ (c_X9_init l D K q2 H.size) ⟨va_cnB 0 hts (gI (mB3 _ (List.mem_of_getElem? (i := 1) rfl))) rfl rfl rfl (hO.2 (RX7, 17, yX9_init, RX10) (List.mem_of_getElem? (i := 2) rfl)) (htl _ (mB1 _ (List.mem_of_getElem? (i := 17) rfl))) (by decide +kernel) ⟨(Nat.le_of_ble_eq_true rfl), (Nat.le_of_ble_eq_true rfl)⟩, rfl, (htl _ (mB3 _ (List.mem_of_getElem? (i := 0) rfl)))⟩ hK hO hP hD hS hA hl.1 rfl (Nat.le_of_ble_eq_true rfl) dX7_init_16 ⟨(Nat.le_of_ble_eq_true rfl), (Nat.le_of_ble_eq_true rfl)⟩ (fun u2 H locs hu hPn hDn hS => ?_)
  subst hu
  have hP := hPn
  have hD := hDn
  have hP : va_P D vwCl ([(h0, .inr (6, [.int 0, .int 0, .ref q1, .int 0, .null, .int 0, .int 0, .int 0, .int 0, .null, .null]))] ++ wAB K q1 0 (fun _ => 0) ++ wRo K u2 z0) H := hP
  have hD : va_D A ([(h0, .inr (6, [.int 0, .int 0, .ref q1, .int 0, .null, .int 0, .int 0, .int 0, .int 0, .null, .null]))] ++ wAB K q1 0 (fun _ => 0) ++ wRo K u2 z0) := hD
  refine va_put (D := D) (ci := 6) (v := .ref (u2 99)) (ty := .object "LastsToNext$Road") (C := RX7) (T := TX7) (N := 11) hx hb hts iX7 tyX7 tyX7_ok nmX7 hown hK hP hD hS 0 rfl rfl 4 (by decide) (htl _ (mB3 _ (List.mem_of_getElem? (i := 18) rfl))) (fun _ h9 => h9) rfl (by decide +kernel) rfl rfl (Nat.le_of_ble_eq_true rfl) dX7_init_19 (fun H locs hP hD hS => ?_)
  have hP : va_P D vwCl ([(h0, .inr (6, [.int 0, .int 0, .ref q1, .int 0, .ref (u2 99), .int 0, .int 0, .int 0, .int 0, .null, .null]))] ++ wAB K q1 0 (fun _ => 0) ++ wRo K u2 z0) H := hP
  have hD : va_D A ([(h0, .inr (6, [.int 0, .int 0, .ref q1, .int 0, .ref (u2 99), .int 0, .int 0, .int 0, .int 0, .null, .null]))] ++ wAB K q1 0 (fun _ => 0) ++ wRo K u2 z0) := hD
  refine lv_aload_n hx hb dX7_init_22 rfl (lv_at hl 0 rfl) ?_
  refine lv_bipush (v := (9 : Int32)) hx hb dX7_init_23 (by decide) ?_
  refine nw_i hx hb (htl _ (mB3 _ (List.mem_of_getElem? (i := 3) rfl))) hK hP hD hS hA (n := (9 : Int32)) (N' := 9) (by decide) rfl (Nat.le_of_ble_eq_true rfl) (Nat.le_of_ble_eq_true rfl) (Nat.le_of_ble_eq_true rfl) dX7_init_25 (fun q3 H hP hD hS => ?_)
  have hP : va_P D vwCl ([(h0, .inr (6, [.int 0, .int 0, .ref q1, .int 0, .ref (u2 99), .int 0, .int 0, .int 0, .int 0, .null, .null]))] ++ wAB K q1 0 (fun _ => 0) ++ wRo K u2 z0 ++ wAI K q3 9 (fun _ => 0)) H := hP
  have hD : va_D A ([(h0, .inr (6, [.int 0, .int 0, .ref q1, .int 0, .ref (u2 99), .int 0, .int 0, .int 0, .int 0, .null, .null]))] ++ wAB K q1 0 (fun _ => 0) ++ wRo K u2 z0 ++ wAI K q3 9 (fun _ => 0)) := hD
  refine va_putF (D := D) (ci := 6) (v := .ref q3) (ty := .array .int) (C := RX7) (T := TX7) (N := 11) hx hb hts iX7 tyX7 tyX7_ok nmX7 hown hK hP hD hS 0 rfl rfl 9 (by decide) (htl _ (mB3 _ (List.mem_of_getElem? (i := 19) rfl))) (fun _ h9 => h9) rfl hin rfl (by decide +kernel) rfl rfl (Nat.le_of_ble_eq_true rfl) dX7_init_27 (fun H locs hP hD hS => ?_)
  have hP : va_P D vwCl ([(h0, .inr (6, [.int 0, .int 0, .ref q1, .int 0, .ref (u2 99), .int 0, .int 0, .int 0, .int 0, .ref q3, .null]))] ++ wAB K q1 0 (fun _ => 0) ++ wRo K u2 z0 ++ wAI K q3 9 (fun _ => 0)) H := hP
  have hD : va_D A ([(h0, .inr (6, [.int 0, .int 0, .ref q1, .int 0, .ref (u2 99), .int 0, .int 0, .int 0, .int 0, .ref q3, .null]))] ++ wAB K q1 0 (fun _ => 0) ++ wRo K u2 z0 ++ wAI K q3 9 (fun _ => 0)) := hD
  refine lv_aload_n hx hb dX7_init_30 rfl (lv_at hl 0 rfl) ?_
  refine lv_bipush (v := (9 : Int32)) hx hb dX7_init_31 (by decide) ?_
  refine nw_i hx hb (htl _ (mB3 _ (List.mem_of_getElem? (i := 3) rfl))) hK hP hD hS hA (n := (9 : Int32)) (N' := 9) (by decide) rfl (Nat.le_of_ble_eq_true rfl) (Nat.le_of_ble_eq_true rfl) (Nat.le_of_ble_eq_true rfl) dX7_init_33 (fun q4 H hP hD hS => ?_)
  have hP : va_P D vwCl ([(h0, .inr (6, [.int 0, .int 0, .ref q1, .int 0, .ref (u2 99), .int 0, .int 0, .int 0, .int 0, .ref q3, .null]))] ++ wAB K q1 0 (fun _ => 0) ++ wRo K u2 z0 ++ wAI K q3 9 (fun _ => 0) ++ wAI K q4 9 (fun _ => 0)) H := hP
  have hD : va_D A ([(h0, .inr (6, [.int 0, .int 0, .ref q1, .int 0, .ref (u2 99), .int 0, .int 0, .int 0, .int 0, .ref q3, .null]))] ++ wAB K q1 0 (fun _ => 0) ++ wRo K u2 z0 ++ wAI K q3 9 (fun _ => 0) ++ wAI K q4 9 (fun _ => 0)) := hD
  refine va_putF (D := D) (ci := 6) (v := .ref q4) (ty := .array .int) (C := RX7) (T := TX7) (N := 11) hx hb hts iX7 tyX7 tyX7_ok nmX7 hown hK hP hD hS 0 rfl rfl 10 (by decide) (htl _ (mB3 _ (List.mem_of_getElem? (i := 20) rfl))) (fun _ h9 => h9) rfl hin rfl (by decide +kernel) rfl rfl (Nat.le_of_ble_eq_true rfl) dX7_init_35 (fun H locs hP hD hS => ?_)
  have hP : va_P D vwCl ([(h0, .inr (6, [.int 0, .int 0, .ref q1, .int 0, .ref (u2 99), .int 0, .int 0, .int 0, .int 0, .ref q3, .ref q4]))] ++ wAB K q1 0 (fun _ => 0) ++ wRo K u2 z0 ++ wAI K q3 9 (fun _ => 0) ++ wAI K q4 9 (fun _ => 0)) H := hP
  have hD : va_D A ([(h0, .inr (6, [.int 0, .int 0, .ref q1, .int 0, .ref (u2 99), .int 0, .int 0, .int 0, .int 0, .ref q3, .ref q4]))] ++ wAB K q1 0 (fun _ => 0) ++ wRo K u2 z0 ++ wAI K q3 9 (fun _ => 0) ++ wAI K q4 9 (fun _ => 0)) := hD
  refine W.widen (k := 13) (n := 254) (Nat.le_of_ble_eq_true rfl) (Nat.le_of_ble_eq_true rfl) ?_
  obtain ⟨u, eu⟩ : ∃ u : (Nat → Nat) × Nat × Nat, u = ((uN (uN (uN (fun _ => 0) 9 q3) 10 q4) 99 h0), q1, (u2 99)) := ⟨_, rfl⟩
  have hP9 : va_P D vwCl (wRd K u.1 u.2.1 u.2.2 z0) H := by rw [eu]; exact va_Psel hP [0, 12, 13] rfl
  have hD9 : va_D A (wRd K u.1 u.2.1 u.2.2 z0) := by rw [eu]; exact hD.sub [0, 12, 13] (by decide) rfl
  have hu9 : u.1 99 = h0 := by rw [eu]; rfl
  exact W.vret hx hb hr (fun t ht hW => ⟨⟨u, rfl, hu9, by rw [ht]; exact hP9, va_K.moved hW.alike hK, hD9⟩, hS.F ht⟩) hS.2.2 dX7_init_38
