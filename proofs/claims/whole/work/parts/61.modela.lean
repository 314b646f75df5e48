def wz_X11_thrown : List Cond := .code yX11_thrown cX11_thrown 1 (some .int) :: wsL_law
abbrev r_X11_thrown : Room := { frames := 0, cells := 0, slots := 0, locals := 0 }
set_option maxHeartbeats 4000000 in
set_option maxRecDepth 100000 in
theorem c_X11_thrown (l : Launch) (D : va_G) (K : Nat → ClassId) (F : Nat) (hMo : Nat → Nat) (sMo : MS) (res : Int32) (hf : f_X11_thrown F sMo = some res) : Met l yX11_thrown wz_X11_thrown r_X11_thrown (va_Pc [.ref (hMo 99)] (PR D K (wMo K hMo sMo))) (va_Qi (fun r (_ : Unit) => r = res) BN nOne) 0 0 nOne := by
  refine Met.ofW (cc := cX11_thrown) (maxL := 1) (ret := (some .int)) (by decide) rfl ?_
  intro p e s m args below meth c s₁ B hml hv
  obtain ⟨hargs, hP, hK⟩ := hv
  have hx := B.exec
  have hb := B.bytes
  have hr := B.returns
  have hts := atoms_spec (ws := wz_X11_thrown) B.pre
  have htl : ∀ w ∈ wsL_law, w.before args s = true := fun w h => hts w (List.mem_cons_of_mem _ h)
  have hown : s.vm.findClass RX11 = some m.cls := findClass_of_methodNamed B.named
  have hlocks := B.notSynchronized
  have hS : va_S nOne s.heap s.heap [] := va_S.rf
  have iX11 : ∀ w ∈ wsX110, w ∈ wz_X11_thrown := fun w h => List.mem_cons_of_mem _ (inlX11 w h)
  suffices hgo : ∀ Q : State → Prop, Q = MQ below (va_Qi (fun r (_ : Unit) => r = res) BN nOne) args s 0 0 nOne → W p l e (headSpec wz_X11_thrown r_X11_thrown).room s m args below meth c s.heap [] 0 0 Q (entryFrame m args 1) from hgo _ rfl
  intro Q hQ
  have hen : entryFrame m args 1 = entryFrame m (([.ref (hMo 99)] : List Value).toArray) 1 := by rw [hargs]
  have hl := lv_entry ([.ref (hMo 99)]) (n := 1) (Nat.le_of_ble_eq_true rfl)
  rw [hen, lg_entry_eq]
  generalize (lg_sl ([.ref (hMo 99)]) ++ List.replicate (1 - (lg_sl ([.ref (hMo 99)])).length) Slot.unset).toArray = ls at hl ⊢
  have hl : lv_has ls 1 [(0, .ref (hMo 99))] := hl
  unfold f_X11_thrown at hf
  obtain ⟨H, hHe⟩ : ∃ z, z = s.heap := ⟨_, rfl⟩
  obtain ⟨locs, hLe⟩ : ∃ z : List Loc, z = [] := ⟨_, rfl⟩
  rw [← hLe]
  have hS : va_S nOne s.heap H locs := by rw [hHe, hLe]; exact hS
  have hP : va_P D vwCl (wMo K hMo sMo) H := by rw [hHe]; exact hP
  have hgo : W p l e (headSpec wz_X11_thrown r_X11_thrown).room s m args below meth c H locs 0 0 Q (F0 m 0 ls []) := by
    refine lv_aload_n hx hb dX11_thrown_0 rfl (lv_at hl 0 rfl) ?_
    refine va_get (D := D) (ci := 10) (v := .int (sMo.1 0)) (C := RX11) (T := TX11) (N := 41) hx hb hts iX11 hown hK hP 0 o_Mo rfl 0 (by decide) (htl _ (mB7 _ (List.mem_of_getElem? (i := 7) rfl))) (fun _ h9 => h9) rfl dX11_thrown_1 ?_
    have e9 := Option.some.inj hf
    rw [hQ]
    exact W.iret (v := (sMo.1 0)) hx hb hr (fun t ht hW => ⟨⟨(sMo.1 0), (), rfl, e9, trivial⟩, hS.F ht⟩) hS.2.2 dX11_thrown_4
  rw [hHe] at hgo
  exact hgo

def wz_X11_good : List Cond := .code yX11_good cX11_good 1 none :: wsL_law
abbrev r_X11_good : Room := { frames := 0, cells := 0, slots := 0, locals := 0 }
set_option maxHeartbeats 4000000 in
set_option maxRecDepth 100000 in
theorem c_X11_good (l : Launch) (D : va_G) (K : Nat → ClassId) (F : Nat) (hMo : Nat → Nat) (sz : Nat) (sMo : MS) (res : MS) (hf : f_X11_good F sMo = some res) : Met l yX11_good wz_X11_good r_X11_good (va_Pc [.ref (hMo 99)] (PW D K (wMo K hMo sMo) sz)) (va_Qv (fun u => u = res) (fun u t => BW D K (va_A (wMo K hMo sMo) sz) (wMo K hMo u) t) (va_A (wMo K hMo sMo) sz)) 0 0 (va_A (wMo K hMo sMo) sz) := by
  refine Met.ofW (cc := cX11_good) (maxL := 1) (ret := none) (by decide) rfl ?_
  intro p e s m args below meth c s₁ B hml hv
  obtain ⟨hargs, hsz, hP, hK, hD0⟩ := hv
  have hx := B.exec
  have hb := B.bytes
  have hr := B.returns
  have hts := atoms_spec (ws := wz_X11_good) B.pre
  have htl : ∀ w ∈ wsL_law, w.before args s = true := fun w h => hts w (List.mem_cons_of_mem _ h)
  have hown : s.vm.findClass RX11 = some m.cls := findClass_of_methodNamed B.named
  have hlocks := B.notSynchronized
  subst hsz
  have hD := hD0.self (sz := s.heap.size)
  generalize hAe : va_A (wMo K hMo sMo) s.heap.size = A at hD ⊢
  have hA : ∀ q : Nat, s.heap.size ≤ q → A q := fun q h => by rw [← hAe]; exact Or.inr h
  have hS : va_S A s.heap s.heap [] := va_S.rf
  have iX11 : ∀ w ∈ wsX110, w ∈ wz_X11_good := fun w h => List.mem_cons_of_mem _ (inlX11 w h)
  suffices hgo : ∀ Q : State → Prop, Q = MQ below (va_Qv (fun u => u = res) (fun u t => BW D K A (wMo K hMo u) t) A) args s 0 0 A → W p l e (headSpec wz_X11_good r_X11_good).room s m args below meth c s.heap [] 0 0 Q (entryFrame m args 1) from hgo _ rfl
  intro Q hQ
  have hen : entryFrame m args 1 = entryFrame m (([.ref (hMo 99)] : List Value).toArray) 1 := by rw [hargs]
  have hl := lv_entry ([.ref (hMo 99)]) (n := 1) (Nat.le_of_ble_eq_true rfl)
  rw [hen, lg_entry_eq]
  generalize (lg_sl ([.ref (hMo 99)]) ++ List.replicate (1 - (lg_sl ([.ref (hMo 99)])).length) Slot.unset).toArray = ls at hl ⊢
  have hl : lv_has ls 1 [(0, .ref (hMo 99))] := hl
  unfold f_X11_good at hf
  obtain ⟨H, hHe⟩ : ∃ z, z = s.heap := ⟨_, rfl⟩
  obtain ⟨locs, hLe⟩ : ∃ z : List Loc, z = [] := ⟨_, rfl⟩
  rw [← hLe]
  have hS : va_S A s.heap H locs := by rw [hHe, hLe]; exact hS
  have hP : va_P D vwCl (wMo K hMo sMo) H := by rw [hHe]; exact hP
  have hgo : W p l e (headSpec wz_X11_good r_X11_good).room s m args below meth c H locs 0 0 Q (F0 m 0 ls []) := by
    refine lv_aload_n hx hb dX11_good_0 rfl (lv_at hl 0 rfl) ?_
    refine lv_iconst (v := (0 : Int32)) hx hb dX11_good_1 (by decide) ?_
    refine va_put (D := D) (ci := 10) (v := .int (0 : Int32)) (ty := .int) (C := RX11) (T := TX11) (N := 41) hx hb hts iX11 tyX11 tyX11_ok nmX11 hown hK hP hD hS 0 o_Mo rfl 0 (by decide) (htl _ (mB7 _ (List.mem_of_getElem? (i := 7) rfl))) (fun _ h9 => h9) rfl (by decide +kernel) rfl rfl (Nat.le_of_ble_eq_true rfl) dX11_good_2 (fun H locs hP hD hS => ?_)
    have hP := cvP si_Mo_0 hP
    have hD := cvD si_Mo_0 hD
    obtain ⟨s1, es1⟩ : ∃ z, z = sI sMo 0 (0 : Int32) := ⟨_, rfl⟩
    have hP : va_P D vwCl (wMo K hMo s1) H := by rw [es1]; exact hP
    have hD : va_D A (wMo K hMo s1) := by rw [es1]; exact hD
    have hf := lz_s hf s1 es1
    refine lv_aload_n hx hb dX11_good_5 rfl (lv_at hl 0 rfl) ?_
    refine lv_iconst (v := (0 : Int32)) hx hb dX11_good_6 (by decide) ?_
    refine va_put (D := D) (ci := 10) (v := .int (0 : Int32)) (ty := .int) (C := RX11) (T := TX11) (N := 41) hx hb hts iX11 tyX11 tyX11_ok nmX11 hown hK hP hD hS 0 o_Mo rfl 11 (by decide) (htl _ (mB18 _ (List.mem_of_getElem? (i := 11) rfl))) (fun _ h9 => h9) rfl (by decide +kernel) rfl rfl (Nat.le_of_ble_eq_true rfl) dX11_good_7 (fun H locs hP hD hS => ?_)
    have hP := cvP si_Mo_11 hP
    have hD := cvD si_Mo_11 hD
    obtain ⟨s2, es2⟩ : ∃ z, z = sI s1 11 (0 : Int32) := ⟨_, rfl⟩
    have hP : va_P D vwCl (wMo K hMo s2) H := by rw [es2]; exact hP
    have hD : va_D A (wMo K hMo s2) := by rw [es2]; exact hD
    have hf := lz_s hf s2 es2
    have e9 := Option.some.inj hf
    rw [hQ]
    exact W.vret hx hb hr (fun t ht hW => ⟨⟨s2, rfl, e9, ⟨by rw [ht]; exact hP, va_K.moved hW.alike hK, hD⟩⟩, hS.F ht⟩) hS.2.2 dX11_good_10
  rw [hHe] at hgo
  exact hgo

def wz_X11_no : List Cond := .code yX11_no cX11_no 2 (some .int) :: wsL_law
abbrev r_X11_no : Room := { frames := 0, cells := 0, slots := 0, locals := 0 }
set_option maxHeartbeats 4000000 in
set_option maxRecDepth 100000 in
theorem c_X11_no (l : Launch) (D : va_G) (K : Nat → ClassId) (F : Nat) (hMo : Nat → Nat) (sz : Nat) (sMo : MS) (p1 : Int32) (res : Int32 × MS) (hf : f_X11_no F p1 sMo = some res) : Met l yX11_no wz_X11_no r_X11_no (va_Pc [.ref (hMo 99), .int p1] (PW D K (wMo K hMo sMo) sz)) (va_Qi (fun r u => r = res.1 ∧ u = res.2) (fun u t => BW D K (va_A (wMo K hMo sMo) sz) (wMo K hMo u) t) (va_A (wMo K hMo sMo) sz)) 0 0 (va_A (wMo K hMo sMo) sz) := by
  refine Met.ofW (cc := cX11_no) (maxL := 2) (ret := (some .int)) (by decide) rfl ?_
  intro p e s m args below meth c s₁ B hml hv
  obtain ⟨hargs, hsz, hP, hK, hD0⟩ := hv
  have hx := B.exec
  have hb := B.bytes
  have hr := B.returns
  have hts := atoms_spec (ws := wz_X11_no) B.pre
  have htl : ∀ w ∈ wsL_law, w.before args s = true := fun w h => hts w (List.mem_cons_of_mem _ h)
  have hown : s.vm.findClass RX11 = some m.cls := findClass_of_methodNamed B.named
  have hlocks := B.notSynchronized
  subst hsz
  have hD := hD0.self (sz := s.heap.size)
  generalize hAe : va_A (wMo K hMo sMo) s.heap.size = A at hD ⊢
  have hA : ∀ q : Nat, s.heap.size ≤ q → A q := fun q h => by rw [← hAe]; exact Or.inr h
  have hS : va_S A s.heap s.heap [] := va_S.rf
  have iX11 : ∀ w ∈ wsX110, w ∈ wz_X11_no := fun w h => List.mem_cons_of_mem _ (inlX11 w h)
  suffices hgo : ∀ Q : State → Prop, Q = MQ below (va_Qi (fun r u => r = res.1 ∧ u = res.2) (fun u t => BW D K A (wMo K hMo u) t) A) args s 0 0 A → W p l e (headSpec wz_X11_no r_X11_no).room s m args below meth c s.heap [] 0 0 Q (entryFrame m args 2) from hgo _ rfl
  intro Q hQ
  have hen : entryFrame m args 2 = entryFrame m (([.ref (hMo 99), .int p1] : List Value).toArray) 2 := by rw [hargs]
  have hl := lv_entry ([.ref (hMo 99), .int p1]) (n := 2) (Nat.le_of_ble_eq_true rfl)
  rw [hen, lg_entry_eq]
  generalize (lg_sl ([.ref (hMo 99), .int p1]) ++ List.replicate (2 - (lg_sl ([.ref (hMo 99), .int p1])).length) Slot.unset).toArray = ls at hl ⊢
  have hl : lv_has ls 2 [(0, .ref (hMo 99)), (1, .int p1)] := hl
  unfold f_X11_no at hf
  obtain ⟨H, hHe⟩ : ∃ z, z = s.heap := ⟨_, rfl⟩
  obtain ⟨locs, hLe⟩ : ∃ z : List Loc, z = [] := ⟨_, rfl⟩
  rw [← hLe]
  have hS : va_S A s.heap H locs := by rw [hHe, hLe]; exact hS
  have hP : va_P D vwCl (wMo K hMo sMo) H := by rw [hHe]; exact hP
  have hgo : W p l e (headSpec wz_X11_no r_X11_no).room s m args below meth c H locs 0 0 Q (F0 m 0 ls []) := by
    refine lv_aload_n hx hb dX11_no_0 rfl (lv_at hl 0 rfl) ?_
    refine lv_iload_n hx hb dX11_no_1 rfl (lv_at hl 1 rfl) ?_
    refine va_put (D := D) (ci := 10) (v := .int p1) (ty := .int) (C := RX11) (T := TX11) (N := 41) hx hb hts iX11 tyX11 tyX11_ok nmX11 hown hK hP hD hS 0 o_Mo rfl 11 (by decide) (htl _ (mB18 _ (List.mem_of_getElem? (i := 11) rfl))) (fun _ h9 => h9) rfl (by decide +kernel) rfl rfl (Nat.le_of_ble_eq_true rfl) dX11_no_2 (fun H locs hP hD hS => ?_)
    have hP := cvP si_Mo_11 hP
    have hD := cvD si_Mo_11 hD
    obtain ⟨s1, es1⟩ : ∃ z, z = sI sMo 11 p1 := ⟨_, rfl⟩
    have hP : va_P D vwCl (wMo K hMo s1) H := by rw [es1]; exact hP
    have hD : va_D A (wMo K hMo s1) := by rw [es1]; exact hD
    have hf := lz_s hf s1 es1
    refine lv_iconst (v := (-1 : Int32)) hx hb dX11_no_5 (by decide) ?_
    have e9 := Option.some.inj hf
    rw [hQ]
    exact W.iret (v := (-1 : Int32)) hx hb hr (fun t ht hW => ⟨⟨(-1 : Int32), s1, rfl, ⟨pr1 e9, pr2 e9⟩, ⟨by rw [ht]; exact hP, va_K.moved hW.alike hK, hD⟩⟩, hS.F ht⟩) hS.2.2 dX11_no_6
  rw [hHe] at hgo
  exact hgo

def wz_X11_isNot : List Cond := .code yX11_isNot cX11_isNot 2 (some .boolean) :: wsL_law
abbrev r_X11_isNot : Room := { frames := 0, cells := 0, slots := 0, locals := 0 }
set_option maxHeartbeats 4000000 in
set_option maxRecDepth 100000 in
theorem c_X11_isNot (l : Launch) (D : va_G) (K : Nat → ClassId) (F : Nat) (hMo : Nat → Nat) (sz : Nat) (sMo : MS) (p1 : Int32) (res : Int32 × MS) (hf : f_X11_isNot F p1 sMo = some res) : Met l yX11_isNot wz_X11_isNot r_X11_isNot (va_Pc [.ref (hMo 99), .int p1] (PW D K (wMo K hMo sMo) sz)) (va_Qi (fun r u => r = res.1 ∧ u = res.2) (fun u t => BW D K (va_A (wMo K hMo sMo) sz) (wMo K hMo u) t) (va_A (wMo K hMo sMo) sz)) 0 0 (va_A (wMo K hMo sMo) sz) := by
  refine Met.ofW (cc := cX11_isNot) (maxL := 2) (ret := (some .boolean)) (by decide) rfl ?_
  intro p e s m args below meth c s₁ B hml hv
  obtain ⟨hargs, hsz, hP, hK, hD0⟩ := hv
  have hx := B.exec
  have hb := B.bytes
  have hr := B.returns
  have hts := atoms_spec (ws := wz_X11_isNot) B.pre
  have htl : ∀ w ∈ wsL_law, w.before args s = true := fun w h => hts w (List.mem_cons_of_mem _ h)
  have hown : s.vm.findClass RX11 = some m.cls := findClass_of_methodNamed B.named
  have hlocks := B.notSynchronized
  subst hsz
  have hD := hD0.self (sz := s.heap.size)
  generalize hAe : va_A (wMo K hMo sMo) s.heap.size = A at hD ⊢
  have hA : ∀ q : Nat, s.heap.size ≤ q → A q := fun q h => by rw [← hAe]; exact Or.inr h
  have hS : va_S A s.heap s.heap [] := va_S.rf
  have iX11 : ∀ w ∈ wsX110, w ∈ wz_X11_isNot := fun w h => List.mem_cons_of_mem _ (inlX11 w h)
  suffices hgo : ∀ Q : State → Prop, Q = MQ below (va_Qi (fun r u => r = res.1 ∧ u = res.2) (fun u t => BW D K A (wMo K hMo u) t) A) args s 0 0 A → W p l e (headSpec wz_X11_isNot r_X11_isNot).room s m args below meth c s.heap [] 0 0 Q (entryFrame m args 2) from hgo _ rfl
  intro Q hQ
  have hen : entryFrame m args 2 = entryFrame m (([.ref (hMo 99), .int p1] : List Value).toArray) 2 := by rw [hargs]
  have hl := lv_entry ([.ref (hMo 99), .int p1]) (n := 2) (Nat.le_of_ble_eq_true rfl)
  rw [hen, lg_entry_eq]
  generalize (lg_sl ([.ref (hMo 99), .int p1]) ++ List.replicate (2 - (lg_sl ([.ref (hMo 99), .int p1])).length) Slot.unset).toArray = ls at hl ⊢
  have hl : lv_has ls 2 [(0, .ref (hMo 99)), (1, .int p1)] := hl
  unfold f_X11_isNot at hf
  obtain ⟨H, hHe⟩ : ∃ z, z = s.heap := ⟨_, rfl⟩
  obtain ⟨locs, hLe⟩ : ∃ z : List Loc, z = [] := ⟨_, rfl⟩
  rw [← hLe]
  have hS : va_S A s.heap H locs := by rw [hHe, hLe]; exact hS
  have hP : va_P D vwCl (wMo K hMo sMo) H := by rw [hHe]; exact hP
  have hgo : W p l e (headSpec wz_X11_isNot r_X11_isNot).room s m args below meth c H locs 0 0 Q (F0 m 0 ls []) := by
    refine lv_aload_n hx hb dX11_isNot_0 rfl (lv_at hl 0 rfl) ?_
    refine lv_iload_n hx hb dX11_isNot_1 rfl (lv_at hl 1 rfl) ?_
    refine va_put (D := D) (ci := 10) (v := .int p1) (ty := .int) (C := RX11) (T := TX11) (N := 41) hx hb hts iX11 tyX11 tyX11_ok nmX11 hown hK hP hD hS 0 o_Mo rfl 11 (by decide) (htl _ (mB18 _ (List.mem_of_getElem? (i := 11) rfl))) (fun _ h9 => h9) rfl (by decide +kernel) rfl rfl (Nat.le_of_ble_eq_true rfl) dX11_isNot_2 (fun H locs hP hD hS => ?_)
    have hP := cvP si_Mo_11 hP
    have hD := cvD si_Mo_11 hD
    obtain ⟨s1, es1⟩ : ∃ z, z = sI sMo 11 p1 := ⟨_, rfl⟩
    have hP : va_P D vwCl (wMo K hMo s1) H := by rw [es1]; exact hP
    have hD : va_D A (wMo K hMo s1) := by rw [es1]; exact hD
    have hf := lz_s hf s1 es1
    refine lv_iconst (v := (0 : Int32)) hx hb dX11_isNot_5 (by decide) ?_
    have e9 := Option.some.inj hf
    rw [hQ]
    exact W.zret (v := (0 : Int32)) hx hb hr rfl (fun t ht hW => ⟨⟨(0 : Int32), s1, rfl, ⟨pr1 e9, pr2 e9⟩, ⟨by rw [ht]; exact hP, va_K.moved hW.alike hK, hD⟩⟩, hS.F ht⟩) hS.2.2 dX11_isNot_6
  rw [hHe] at hgo
  exact hgo

def wz_X11_in : List Cond := .code yX11_in cX11_in 3 (some .boolean) :: wsL_law
abbrev r_X11_in : Room := { frames := 0, cells := 0, slots := 0, locals := 0 }
set_option maxHeartbeats 4000000 in
set_option maxRecDepth 100000 in
theorem c_X11_in (l : Launch) (D : va_G) (K : Nat → ClassId) (F : Nat) (p0 : Int32) (p1 : Int32) (p2 : Int32) (res : Int32) (hf : f_X11_in F p0 p1 p2 = some res) : Met l yX11_in wz_X11_in r_X11_in (va_Pc [.int p0, .int p1, .int p2] (PR D K (([] : va_W)))) (va_Qi (fun r (_ : Unit) => r = res) BN nOne) 0 0 nOne := by
  refine Met.ofW (cc := cX11_in) (maxL := 3) (ret := (some .boolean)) (by decide) rfl ?_
  intro p e s m args below meth c s₁ B hml hv
  obtain ⟨hargs, hP, hK⟩ := hv
  have hx := B.exec
  have hb := B.bytes
  have hr := B.returns
  have hts := atoms_spec (ws := wz_X11_in) B.pre
  have htl : ∀ w ∈ wsL_law, w.before args s = true := fun w h => hts w (List.mem_cons_of_mem _ h)
  have hown : s.vm.findClass RX11 = some m.cls := findClass_of_methodNamed B.named
  have hlocks := B.notSynchronized
  have hS : va_S nOne s.heap s.heap [] := va_S.rf
  suffices hgo : ∀ Q : State → Prop, Q = MQ below (va_Qi (fun r (_ : Unit) => r = res) BN nOne) args s 0 0 nOne → W p l e (headSpec wz_X11_in r_X11_in).room s m args below meth c s.heap [] 0 0 Q (entryFrame m args 3) from hgo _ rfl
  intro Q hQ
  have hen : entryFrame m args 3 = entryFrame m (([.int p0, .int p1, .int p2] : List Value).toArray) 3 := by rw [hargs]
  have hl := lv_entry ([.int p0, .int p1, .int p2]) (n := 3) (Nat.le_of_ble_eq_true rfl)
  rw [hen, lg_entry_eq]
  generalize (lg_sl ([.int p0, .int p1, .int p2]) ++ List.replicate (3 - (lg_sl ([.int p0, .int p1, .int p2])).length) Slot.unset).toArray = ls at hl ⊢
  have hl : lv_has ls 3 [(0, .int p0), (1, .int p1), (2, .int p2)] := hl
  unfold f_X11_in at hf
  obtain ⟨H, hHe⟩ : ∃ z, z = s.heap := ⟨_, rfl⟩
  obtain ⟨locs, hLe⟩ : ∃ z : List Loc, z = [] := ⟨_, rfl⟩
  rw [← hLe]
  have hS : va_S nOne s.heap H locs := by rw [hHe, hLe]; exact hS
  have hP : va_P D vwCl (([] : va_W)) H := by rw [hHe]; exact hP
  have hgo : W p l e (headSpec wz_X11_in r_X11_in).room s m args below meth c H locs 0 0 Q (F0 m 0 ls []) := by
    refine lv_iload_n hx hb dX11_in_0 rfl (lv_at hl 0 rfl) ?_
    refine lv_iload_n hx hb dX11_in_1 rfl (lv_at hl 1 rfl) ?_
    refine lv_icmp_lt (tgt := 14) hx hb dX11_in_2 (by decide) (fun c1 => ?_) (fun c1 => ?_)
    · have hf := it_t hf c1
      refine lv_iconst (v := (0 : Int32)) hx hb dX11_in_14 (by decide) ?_
      have e9 := Option.some.inj hf
      rw [hQ]
      exact W.zret (v := (0 : Int32)) hx hb hr rfl (fun t ht hW => ⟨⟨(0 : Int32), (), rfl, e9, trivial⟩, hS.F ht⟩) hS.2.2 dX11_in_15
    · have hf := it_f hf c1
      refine lv_iload_n hx hb dX11_in_5 rfl (lv_at hl 0 rfl) ?_
      refine lv_iload_n hx hb dX11_in_6 rfl (lv_at hl 2 rfl) ?_
      refine lv_icmp_gt (tgt := 14) hx hb dX11_in_7 (by decide) (fun c2 => ?_) (fun c2 => ?_)
      · have hf := it_t hf c2
        refine lv_iconst (v := (0 : Int32)) hx hb dX11_in_14 (by decide) ?_
        have e9 := Option.some.inj hf
        rw [hQ]
        exact W.zret (v := (0 : Int32)) hx hb hr rfl (fun t ht hW => ⟨⟨(0 : Int32), (), rfl, e9, trivial⟩, hS.F ht⟩) hS.2.2 dX11_in_15
      · have hf := it_f hf c2
        refine lv_iconst (v := (1 : Int32)) hx hb dX11_in_10 (by decide) ?_
        refine lv_goto (tgt := 15) hx hb dX11_in_11 (by decide) ?_
        have e9 := Option.some.inj hf
        rw [hQ]
        exact W.zret (v := (1 : Int32)) hx hb hr rfl (fun t ht hW => ⟨⟨(1 : Int32), (), rfl, e9, trivial⟩, hS.F ht⟩) hS.2.2 dX11_in_15
  rw [hHe] at hgo
  exact hgo

def wz_X11_hasBit : List Cond := .code yX11_hasBit cX11_hasBit 2 (some .boolean) :: wsL_law
abbrev r_X11_hasBit : Room := { frames := 0, cells := 0, slots := 0, locals := 0 }
set_option maxHeartbeats 4000000 in
set_option maxRecDepth 100000 in
theorem c_X11_hasBit (l : Launch) (D : va_G) (K : Nat → ClassId) (F : Nat) (p0 : Int32) (p1 : Int32) (res : Int32) (hf : f_X11_hasBit F p0 p1 = some res) : Met l yX11_hasBit wz_X11_hasBit r_X11_hasBit (va_Pc [.int p0, .int p1] (PR D K (([] : va_W)))) (va_Qi (fun r (_ : Unit) => r = res) BN nOne) 0 0 nOne := by
  refine Met.ofW (cc := cX11_hasBit) (maxL := 2) (ret := (some .boolean)) (by decide) rfl ?_
  intro p e s m args below meth c s₁ B hml hv
  obtain ⟨hargs, hP, hK⟩ := hv
  have hx := B.exec
  have hb := B.bytes
  have hr := B.returns
  have hts := atoms_spec (ws := wz_X11_hasBit) B.pre
  have htl : ∀ w ∈ wsL_law, w.before args s = true := fun w h => hts w (List.mem_cons_of_mem _ h)
  have hown : s.vm.findClass RX11 = some m.cls := findClass_of_methodNamed B.named
  have hlocks := B.notSynchronized
  have hS : va_S nOne s.heap s.heap [] := va_S.rf
  suffices hgo : ∀ Q : State → Prop, Q = MQ below (va_Qi (fun r (_ : Unit) => r = res) BN nOne) args s 0 0 nOne → W p l e (headSpec wz_X11_hasBit r_X11_hasBit).room s m args below meth c s.heap [] 0 0 Q (entryFrame m args 2) from hgo _ rfl
  intro Q hQ
  have hen : entryFrame m args 2 = entryFrame m (([.int p0, .int p1] : List Value).toArray) 2 := by rw [hargs]
  have hl := lv_entry ([.int p0, .int p1]) (n := 2) (Nat.le_of_ble_eq_true rfl)
  rw [hen, lg_entry_eq]
  generalize (lg_sl ([.int p0, .int p1]) ++ List.replicate (2 - (lg_sl ([.int p0, .int p1])).length) Slot.unset).toArray = ls at hl ⊢
  have hl : lv_has ls 2 [(0, .int p0), (1, .int p1)] := hl
  unfold f_X11_hasBit at hf
  obtain ⟨H, hHe⟩ : ∃ z, z = s.heap := ⟨_, rfl⟩
  obtain ⟨locs, hLe⟩ : ∃ z : List Loc, z = [] := ⟨_, rfl⟩
  rw [← hLe]
  have hS : va_S nOne s.heap H locs := by rw [hHe, hLe]; exact hS
  have hP : va_P D vwCl (([] : va_W)) H := by rw [hHe]; exact hP
  have hgo : W p l e (headSpec wz_X11_hasBit r_X11_hasBit).room s m args below meth c H locs 0 0 Q (F0 m 0 ls []) := by
    refine lv_iload_n hx hb dX11_hasBit_0 rfl (lv_at hl 0 rfl) ?_
    refine lv_iload_n hx hb dX11_hasBit_1 rfl (lv_at hl 1 rfl) ?_
    refine lv_ishr hx hb dX11_hasBit_2 ?_
    refine lv_iconst (v := (1 : Int32)) hx hb dX11_hasBit_3 (by decide) ?_
    refine lv_iand hx hb dX11_hasBit_4 ?_
    refine lv_iconst (v := (1 : Int32)) hx hb dX11_hasBit_5 (by decide) ?_
    refine lv_icmp_ne (tgt := 13) hx hb dX11_hasBit_6 (by decide) (fun c1 => ?_) (fun c1 => ?_)
    · have hf := it_f hf c1
      refine lv_iconst (v := (0 : Int32)) hx hb dX11_hasBit_13 (by decide) ?_
      have e9 := Option.some.inj hf
      rw [hQ]
      exact W.zret (v := (0 : Int32)) hx hb hr rfl (fun t ht hW => ⟨⟨(0 : Int32), (), rfl, e9, trivial⟩, hS.F ht⟩) hS.2.2 dX11_hasBit_14
    · have hf := it_t hf c1
      refine lv_iconst (v := (1 : Int32)) hx hb dX11_hasBit_9 (by decide) ?_
      refine lv_goto (tgt := 14) hx hb dX11_hasBit_10 (by decide) ?_
      have e9 := Option.some.inj hf
      rw [hQ]
      exact W.zret (v := (1 : Int32)) hx hb hr rfl (fun t ht hW => ⟨⟨(1 : Int32), (), rfl, e9, trivial⟩, hS.F ht⟩) hS.2.2 dX11_hasBit_14
  rw [hHe] at hgo
  exact hgo

def wz_X11_copy : List Cond := .code yX11_copy cX11_copy 6 none :: wsL_law
abbrev r_X11_copy : Room := { frames := 0, cells := 0, slots := 0, locals := 0 }
set_option maxHeartbeats 4000000 in
set_option maxRecDepth 100000 in
theorem c_X11_copy (l : Launch) (D : va_G) (K : Nat → ClassId) (F : Nat) (aq0 nq0 : Nat) (aq1 nq1 : Nat) (sz : Nat) (fq0 : (Nat → Int32)) (fq1 : (Nat → Int32)) (p1 : Int32) (p3 : Int32) (p4 : Int32) (res : (Nat → Int32)) (hf : f_X11_copy F nq0 fq0 nq1 p1 p3 p4 fq1 = some res) : Met l yX11_copy wz_X11_copy r_X11_copy (va_Pc [.ref aq0, .int p1, .ref aq1, .int p3, .int p4] (PW D K (wAI K aq0 nq0 fq0 ++ wAI K aq1 nq1 fq1) sz)) (va_Qv (fun u => u = res) (fun u t => BW D K (va_A (wAI K aq0 nq0 fq0 ++ wAI K aq1 nq1 fq1) sz) (wAI K aq0 nq0 fq0 ++ wAI K aq1 nq1 u) t) (va_A (wAI K aq0 nq0 fq0 ++ wAI K aq1 nq1 fq1) sz)) 0 0 (va_A (wAI K aq0 nq0 fq0 ++ wAI K aq1 nq1 fq1) sz) := by
  refine Met.ofW (cc := cX11_copy) (maxL := 6) (ret := none) (by decide) rfl ?_
  intro p e s m args below meth c s₁ B hml hv
  obtain ⟨hargs, hsz, hP, hK, hD0⟩ := hv
  have hx := B.exec
  have hb := B.bytes
  have hr := B.returns
  have hts := atoms_spec (ws := wz_X11_copy) B.pre
  have htl : ∀ w ∈ wsL_law, w.before args s = true := fun w h => hts w (List.mem_cons_of_mem _ h)
  have hown : s.vm.findClass RX11 = some m.cls := findClass_of_methodNamed B.named
  have hlocks := B.notSynchronized
  subst hsz
  have hD := hD0.self (sz := s.heap.size)
  generalize hAe : va_A (wAI K aq0 nq0 fq0 ++ wAI K aq1 nq1 fq1) s.heap.size = A at hD ⊢
  have hA : ∀ q : Nat, s.heap.size ≤ q → A q := fun q h => by rw [← hAe]; exact Or.inr h
  have hS : va_S A s.heap s.heap [] := va_S.rf
  suffices hgo : ∀ Q : State → Prop, Q = MQ below (va_Qv (fun u => u = res) (fun u t => BW D K A (wAI K aq0 nq0 fq0 ++ wAI K aq1 nq1 u) t) A) args s 0 0 A → W p l e (headSpec wz_X11_copy r_X11_copy).room s m args below meth c s.heap [] 0 0 Q (entryFrame m args 6) from hgo _ rfl
  intro Q hQ
  have w3 : ∀ (n : Nat), ∀ (x5 : Int32), ∀ (fq1 : (Nat → Int32)), ∀ (H : Heap) (locs : List Loc) (ls : Array Slot), f_X11_copy_3 F nq0 fq0 nq1 p1 p3 p4 n x5 fq1 = some res → va_P D vwCl (wAI K aq0 nq0 fq0 ++ wAI K aq1 nq1 fq1) H → va_D A (wAI K aq0 nq0 fq0 ++ wAI K aq1 nq1 fq1) → va_S A s.heap H locs → lv_has ls 6 [(0, .ref aq0), (1, .int p1), (2, .ref aq1), (3, .int p3), (4, .int p4), (5, .int x5)] → W p l e (headSpec wz_X11_copy r_X11_copy).room s m args below meth c H locs 0 0 Q (F0 m 3 ls []) := by
    intro n
    induction n with
    | zero =>
      intro x5 fq1 H locs ls hf
      exact absurd (show none = some res from hf) (fun h => nomatch h)
    | succ n ih =>
      intro x5 fq1 H locs ls hf hP hD hS hl
      rw [f_X11_copy_3] at hf
      refine lv_iload hx hb dX11_copy_3 (lv_at hl 5 rfl) ?_
      refine lv_iload hx hb dX11_copy_5 (lv_at hl 4 rfl) ?_
      refine lv_icmp_ge (tgt := 28) hx hb dX11_copy_7 (by decide) (fun c1 => ?_) (fun c1 => ?_)
      · have hf := it_t hf c1
        have e9 := Option.some.inj hf
        rw [hQ]
        exact W.vret hx hb hr (fun t ht hW => ⟨⟨fq1, rfl, e9, ⟨by rw [ht]; exact hP, va_K.moved hW.alike hK, hD⟩⟩, hS.F ht⟩) hS.2.2 dX11_copy_28
      · have hf := it_f hf c1
        refine lv_aload_n hx hb dX11_copy_10 rfl (lv_at hl 2 rfl) ?_
        refine lv_iload_n hx hb dX11_copy_11 rfl (lv_at hl 3 rfl) ?_
        refine lv_iload hx hb dX11_copy_12 (lv_at hl 5 rfl) ?_
        refine lv_iadd hx hb dX11_copy_14 ?_
        refine lv_aload_n hx hb dX11_copy_15 rfl (lv_at hl 0 rfl) ?_
        refine lv_iload_n hx hb dX11_copy_16 rfl (lv_at hl 1 rfl) ?_
        refine lv_iload hx hb dX11_copy_17 (lv_at hl 5 rfl) ?_
        refine lv_iadd hx hb dX11_copy_19 ?_
        obtain ⟨g2, hf⟩ := gd_s hf
        refine va_iald hx hb hK hP 0 0 (f := fq0) (rwl o_AI) rfl (vpb_in g2) dX11_copy_20 ?_
        refine lv_topi (fun v3 ev3 => ?_)
        have hf := lz_s hf v3 ev3
        obtain ⟨g4, hf⟩ := gd_s hf
        refine va_iast hx hb hK hP hD hS (1 + 0) 0 (f := fq1) (rwr ln_AI o_AI) rfl (vpb_in g4) dX11_copy_21 (fun H locs hP hD hS => ?_)
        have hP := cvP (str ln_AI s_AI) hP
        have hD := cvD (str ln_AI s_AI) hD
        obtain ⟨g5, eg5⟩ : ∃ z, z = upd fq1 ((p3 + x5).toNatClampNeg) v3 := ⟨_, rfl⟩
        have hP : va_P D vwCl (wAI K aq0 nq0 fq0 ++ wAI K aq1 nq1 g5) H := by rw [eg5]; exact hP
        have hD : va_D A (wAI K aq0 nq0 fq0 ++ wAI K aq1 nq1 g5) := by rw [eg5]; exact hD
        have hf := lz_s hf g5 eg5
        obtain ⟨v6, ev6⟩ : ∃ z : Int32, z = x5 + (1 : Int32) := ⟨_, rfl⟩
        have hf := lz_s hf v6 ev6
        refine lv_iinc (v := v6) (lv' := [(5, .int v6), (0, .ref aq0), (1, .int p1), (2, .ref aq1), (3, .int p3), (4, .int p4)]) hx hb dX11_copy_22 hl (k := 5) rfl (by rw [ev6]; rfl) (by decide) rfl (fun ls hl => ?_)
        refine lv_goto (tgt := 3) hx hb dX11_copy_25 (by decide) ?_
        exact ih v6 g5 H locs ls hf hP hD hS (lv_sub hl [1, 2, 3, 4, 5, 0] rfl)
  have hen : entryFrame m args 6 = entryFrame m (([.ref aq0, .int p1, .ref aq1, .int p3, .int p4] : List Value).toArray) 6 := by rw [hargs]
  have hl := lv_entry ([.ref aq0, .int p1, .ref aq1, .int p3, .int p4]) (n := 6) (Nat.le_of_ble_eq_true rfl)
  rw [hen, lg_entry_eq]
  generalize (lg_sl ([.ref aq0, .int p1, .ref aq1, .int p3, .int p4]) ++ List.replicate (6 - (lg_sl ([.ref aq0, .int p1, .ref aq1, .int p3, .int p4])).length) Slot.unset).toArray = ls at hl ⊢
  have hl : lv_has ls 6 [(0, .ref aq0), (1, .int p1), (2, .ref aq1), (3, .int p3), (4, .int p4)] := hl
  unfold f_X11_copy at hf
  obtain ⟨H, hHe⟩ : ∃ z, z = s.heap := ⟨_, rfl⟩
  obtain ⟨locs, hLe⟩ : ∃ z : List Loc, z = [] := ⟨_, rfl⟩
  rw [← hLe]
  have hS : va_S A s.heap H locs := by rw [hHe, hLe]; exact hS
  have hP : va_P D vwCl (wAI K aq0 nq0 fq0 ++ wAI K aq1 nq1 fq1) H := by rw [hHe]; exact hP
  have hgo : W p l e (headSpec wz_X11_copy r_X11_copy).room s m args below meth c H locs 0 0 Q (F0 m 0 ls []) := by
    refine lv_iconst (v := (0 : Int32)) hx hb dX11_copy_0 (by decide) ?_
    refine lv_istore (lv' := [(5, .int (0 : Int32)), (0, .ref aq0), (1, .int p1), (2, .ref aq1), (3, .int p3), (4, .int p4)]) hx hb dX11_copy_1 hl (by decide) rfl (fun ls hl => ?_)
    exact w3 F (0 : Int32) fq1 H locs ls hf hP hD hS (lv_sub hl [1, 2, 3, 4, 5, 0] rfl)
  rw [hHe] at hgo
  exact hgo

def wz_X11_dividing : List Cond := .code yX11_dividing cX11_dividing 10 (some .long) :: wsL_law
abbrev r_X11_dividing : Room := { frames := 0, cells := 0, slots := 0, locals := 0 }
set_option maxHeartbeats 4000000 in
set_option maxRecDepth 100000 in
theorem c_X11_dividing (l : Launch) (D : va_G) (K : Nat → ClassId) (F : Nat) (p0 : Int64) (p2 : Int64) (res : Int64) (hf : f_X11_dividing F p0 p2 = some res) : Met l yX11_dividing wz_X11_dividing r_X11_dividing (va_Pc [.long p0, .long p2] (PR D K (([] : va_W)))) (va_Ql (fun r (_ : Unit) => r = res) BN nOne) 0 0 nOne := by
  refine Met.ofW (cc := cX11_dividing) (maxL := 10) (ret := (some .long)) (by decide) rfl ?_
  intro p e s m args below meth c s₁ B hml hv
  obtain ⟨hargs, hP, hK⟩ := hv
  have hx := B.exec
  have hb := B.bytes
  have hr := B.returns
  have hts := atoms_spec (ws := wz_X11_dividing) B.pre
  have htl : ∀ w ∈ wsL_law, w.before args s = true := fun w h => hts w (List.mem_cons_of_mem _ h)
  have hown : s.vm.findClass RX11 = some m.cls := findClass_of_methodNamed B.named
  have hlocks := B.notSynchronized
  have hS : va_S nOne s.heap s.heap [] := va_S.rf
  suffices hgo : ∀ Q : State → Prop, Q = MQ below (va_Ql (fun r (_ : Unit) => r = res) BN nOne) args s 0 0 nOne → W p l e (headSpec wz_X11_dividing r_X11_dividing).room s m args below meth c s.heap [] 0 0 Q (entryFrame m args 10) from hgo _ rfl
  intro Q hQ
  have w6 : ∀ (n : Nat), ∀ (x4 : Int64), ∀ (x6 : Int64), ∀ (H : Heap) (locs : List Loc) (ls : Array Slot), f_X11_dividing_6 F p0 p2 n x4 x6 = some res → va_P D vwCl (([] : va_W)) H → va_S nOne s.heap H locs → lv_has ls 10 [(4, .long x4), (6, .long x6)] → W p l e (headSpec wz_X11_dividing r_X11_dividing).room s m args below meth c H locs 0 0 Q (F0 m 6 ls []) := by
    intro n
    induction n with
    | zero =>
      intro x4 x6 H locs ls hf
      exact absurd (show none = some res from hf) (fun h => nomatch h)
    | succ n ih =>
      intro x4 x6 H locs ls hf hP hS hl
      rw [f_X11_dividing_6] at hf
      refine lv_lload hx hb dX11_dividing_6 (lv_at hl 1 rfl) ?_
      refine lv_lconst (v := (0 : Int64)) hx hb dX11_dividing_8 (by decide) ?_
      refine W.lcmp hx hb dX11_dividing_9 ?_
      refine lv_if_eq (tgt := 31) hx hb dX11_dividing_10 (by decide) (fun c1 => ?_) (fun c1 => ?_)
      · have hf := it_t hf c1
        refine lv_lload hx hb dX11_dividing_31 (lv_at hl 0 rfl) ?_
        have e9 := Option.some.inj hf
        rw [hQ]
        exact W.lret (v := x4) hx hb hr (fun t ht hW => ⟨⟨x4, (), rfl, e9, trivial⟩, hS.F ht⟩) hS.2.2 dX11_dividing_33
      · have hf := it_f hf c1
        refine lv_lload hx hb dX11_dividing_13 (lv_at hl 0 rfl) ?_
        refine lv_lload hx hb dX11_dividing_15 (lv_at hl 1 rfl) ?_
        obtain ⟨g2, hf⟩ := gd_s hf
        refine lv_lrem hx hb dX11_dividing_17 (nzl_s g2) ?_
        refine lv_lstore (lv' := [(8, .long (x4 - x4 / x6 * x6)), (4, .long x4), (6, .long x6)]) hx hb dX11_dividing_18 hl (by decide) rfl (fun ls hl => ?_)
        refine lv_lload hx hb dX11_dividing_20 (lv_at hl 2 rfl) ?_
        refine lv_lstore (lv' := [(4, .long x6), (8, .long (x4 - x4 / x6 * x6)), (6, .long x6)]) hx hb dX11_dividing_22 hl (by decide) rfl (fun ls hl => ?_)
        refine lv_lload hx hb dX11_dividing_24 (lv_at hl 1 rfl) ?_
        refine lv_lstore (lv' := [(6, .long (x4 - x4 / x6 * x6)), (4, .long x6), (8, .long (x4 - x4 / x6 * x6))]) hx hb dX11_dividing_26 hl (by decide) rfl (fun ls hl => ?_)
        refine lv_goto (tgt := 6) hx hb dX11_dividing_28 (by decide) ?_
        exact ih x6 (x4 - x4 / x6 * x6) H locs ls hf hP hS (lv_sub hl [1, 0] rfl)
  have hen : entryFrame m args 10 = entryFrame m (([.long p0, .long p2] : List Value).toArray) 10 := by rw [hargs]
  have hl := lv_entry ([.long p0, .long p2]) (n := 10) (Nat.le_of_ble_eq_true rfl)
  rw [hen, lg_entry_eq]
  generalize (lg_sl ([.long p0, .long p2]) ++ List.replicate (10 - (lg_sl ([.long p0, .long p2])).length) Slot.unset).toArray = ls at hl ⊢
  have hl : lv_has ls 10 [(0, .long p0), (2, .long p2)] := hl
  unfold f_X11_dividing at hf
  obtain ⟨H, hHe⟩ : ∃ z, z = s.heap := ⟨_, rfl⟩
  obtain ⟨locs, hLe⟩ : ∃ z : List Loc, z = [] := ⟨_, rfl⟩
  rw [← hLe]
  have hS : va_S nOne s.heap H locs := by rw [hHe, hLe]; exact hS
  have hP : va_P D vwCl (([] : va_W)) H := by rw [hHe]; exact hP
  have hgo : W p l e (headSpec wz_X11_dividing r_X11_dividing).room s m args below meth c H locs 0 0 Q (F0 m 0 ls []) := by
    refine lv_lload_n hx hb dX11_dividing_0 rfl (lv_at hl 0 rfl) ?_
    refine lv_lstore (lv' := [(4, .long p0), (0, .long p0), (2, .long p2)]) hx hb dX11_dividing_1 hl (by decide) rfl (fun ls hl => ?_)
    refine lv_lload_n hx hb dX11_dividing_3 rfl (lv_at hl 2 rfl) ?_
    refine lv_lstore (lv' := [(6, .long p2), (4, .long p0), (0, .long p0), (2, .long p2)]) hx hb dX11_dividing_4 hl (by decide) rfl (fun ls hl => ?_)
    exact w6 F p0 p2 H locs ls hf hP hS (lv_sub hl [1, 0] rfl)
  rw [hHe] at hgo
  exact hgo

theorem gcS_X11_dividing {T0 : Cond} {own : String} {i : Nat} (h : Cond.methodLink own i yX11_dividing ∈ wsL_law) : GoodIn (T0 :: wsL_law) (va_wsS own i yX11_dividing wz_X11_dividing) := gS h (mB46 _ (List.mem_of_getElem? (i := 5) rfl)) (mB1 _ (List.mem_of_getElem? (i := 5) rfl)) (mB46 _ (List.mem_of_getElem? (i := 6) rfl))
theorem hdS_X11_dividing : yX11_dividing.cls ≠ "java/lang/invoke/MethodHandle" ∧ yX11_dividing.cls ≠ "java/lang/invoke/VarHandle" ∧ (parseMethodDescriptor yX11_dividing.desc).map (fun d => d.parameters.length) = some 2 := by decide +kernel
def wz_X11_lowest : List Cond := .code yX11_lowest cX11_lowest 5 (some .long) :: wsL_law
abbrev r_X11_lowest : Room := { frames := 1, cells := 0, slots := 0, locals := 29 }
set_option maxHeartbeats 4000000 in
set_option maxRecDepth 100000 in
theorem c_X11_lowest (l : Launch) (D : va_G) (K : Nat → ClassId) (F : Nat) (p0 : Int64) (p2 : Int64) (p4 : Int32) (res : Int64) (hf : f_X11_lowest F p0 p2 p4 = some res) : Met l yX11_lowest wz_X11_lowest r_X11_lowest (va_Pc [.long p0, .long p2, .int p4] (PR D K (([] : va_W)))) (va_Ql (fun r (_ : Unit) => r = res) BN nOne) 0 0 nOne := by
  refine Met.ofW (cc := cX11_lowest) (maxL := 5) (ret := (some .long)) (by decide) rfl ?_
  intro p e s m args below meth c s₁ B hml hv
  obtain ⟨hargs, hP, hK⟩ := hv
  have hx := B.exec
  have hb := B.bytes
  have hr := B.returns
  have hts := atoms_spec (ws := wz_X11_lowest) B.pre
  have htl : ∀ w ∈ wsL_law, w.before args s = true := fun w h => hts w (List.mem_cons_of_mem _ h)
  have hown : s.vm.findClass RX11 = some m.cls := findClass_of_methodNamed B.named
  have hlocks := B.notSynchronized
  have hS : va_S nOne s.heap s.heap [] := va_S.rf
  suffices hgo : ∀ Q : State → Prop, Q = MQ below (va_Ql (fun r (_ : Unit) => r = res) BN nOne) args s 0 0 nOne → W p l e (headSpec wz_X11_lowest r_X11_lowest).room s m args below meth c s.heap [] 0 0 Q (entryFrame m args 5) from hgo _ rfl
  intro Q hQ
  have w10 : ∀ (y0 : Int64), ∀ (H : Heap) (locs : List Loc) (ls : Array Slot), f_X11_lowest_10 F p0 p2 p4 y0 = some res → va_P D vwCl (([] : va_W)) H → va_S nOne s.heap H locs → lv_has ls 5 [(0, .long p0), (2, .long p2)] → W p l e (headSpec wz_X11_lowest r_X11_lowest).room s m args below meth c H locs 0 0 Q (F0 m 10 ls [.long y0]) := by
    intro y0 H locs ls hf hP hS hl
    unfold f_X11_lowest_10 at hf
    refine lv_lload_n hx hb dX11_lowest_10 rfl (lv_at hl 1 rfl) ?_
    refine lv_lload_n hx hb dX11_lowest_11 rfl (lv_at hl 0 rfl) ?_
    obtain ⟨o2, go2, hf⟩ := bd_s hf
    refine ro_Sl (As := [.long p2, .long p0]) (rest := [.long y0]) ⟨hx, hb, hml, hown, hts⟩ (c_X11_dividing l D K F p2 p0 o2 go2) (va_cwS 2 hts (gcS_X11_dividing (mB46 _ (List.mem_of_getElem? (i := 4) rfl))) rfl rfl rfl hdS_X11_dividing ⟨Nat.le_of_ble_eq_true rfl, Nat.le_of_ble_eq_true rfl⟩) hK hP hS va_Pnil rfl hl.1 rfl (Nat.le_of_ble_eq_true rfl) dX11_lowest_12 ⟨Nat.zero_le _, Nat.zero_le _⟩ (fun H locs hP hS => ?_)
    obtain ⟨g3, hf⟩ := gd_s hf
    refine lv_ldiv hx hb dX11_lowest_15 (nzl_s g3) ?_
    have e9 := Option.some.inj hf
    rw [hQ]
    exact W.lret (v := (y0 / o2)) hx hb hr (fun t ht hW => ⟨⟨(y0 / o2), (), rfl, e9, trivial⟩, hS.F ht⟩) hS.2.2 dX11_lowest_16
  have hen : entryFrame m args 5 = entryFrame m (([.long p0, .long p2, .int p4] : List Value).toArray) 5 := by rw [hargs]
  have hl := lv_entry ([.long p0, .long p2, .int p4]) (n := 5) (Nat.le_of_ble_eq_true rfl)
  rw [hen, lg_entry_eq]
  generalize (lg_sl ([.long p0, .long p2, .int p4]) ++ List.replicate (5 - (lg_sl ([.long p0, .long p2, .int p4])).length) Slot.unset).toArray = ls at hl ⊢
  have hl : lv_has ls 5 [(0, .long p0), (2, .long p2), (4, .int p4)] := hl
  unfold f_X11_lowest at hf
  obtain ⟨H, hHe⟩ : ∃ z, z = s.heap := ⟨_, rfl⟩
  obtain ⟨locs, hLe⟩ : ∃ z : List Loc, z = [] := ⟨_, rfl⟩
  rw [← hLe]
  have hS : va_S nOne s.heap H locs := by rw [hHe, hLe]; exact hS
  have hP : va_P D vwCl (([] : va_W)) H := by rw [hHe]; exact hP
  have hgo : W p l e (headSpec wz_X11_lowest r_X11_lowest).room s m args below meth c H locs 0 0 Q (F0 m 0 ls []) := by
    refine lv_iload hx hb dX11_lowest_0 (lv_at hl 2 rfl) ?_
    refine lv_if_eq (tgt := 9) hx hb dX11_lowest_2 (by decide) (fun c1 => ?_) (fun c1 => ?_)
    · have hf := it_t hf c1
      refine lv_lload_n hx hb dX11_lowest_9 rfl (lv_at hl 0 rfl) ?_
      exact w10 p0 H locs ls hf hP hS (lv_sub hl [0, 1] rfl)
    · have hf := it_f hf c1
      refine lv_lload_n hx hb dX11_lowest_5 rfl (lv_at hl 1 rfl) ?_
      refine lv_goto (tgt := 10) hx hb dX11_lowest_6 (by decide) ?_
      exact w10 p2 H locs ls hf hP hS (lv_sub hl [0, 1] rfl)
  rw [hHe] at hgo
  exact hgo

def wz_X11_feed : List Cond := .code yX11_feed cX11_feed 8 (some .int) :: wsL_law
abbrev r_X11_feed : Room := { frames := 0, cells := 0, slots := 0, locals := 0 }
set_option maxHeartbeats 4000000 in
set_option maxRecDepth 100000 in
theorem c_X11_feed (l : Launch) (D : va_G) (K : Nat → ClassId) (F : Nat) (hMo : Nat → Nat) (sz : Nat) (sMo : MS) (p1 : Int32) (p2 : Int32) (p3 : Int32) (p4 : Int32) (p5 : Int32) (res : Int32 × MS) (hf : f_X11_feed F p1 p2 p3 p4 p5 sMo = some res) : Met l yX11_feed wz_X11_feed r_X11_feed (va_Pc [.ref (hMo 99), .int p1, .int p2, .int p3, .int p4, .int p5] (PW D K (wMo K hMo sMo) sz)) (va_Qi (fun r u => r = res.1 ∧ u = res.2) (fun u t => BW D K (va_A (wMo K hMo sMo) sz) (wMo K hMo u) t) (va_A (wMo K hMo sMo) sz)) 0 0 (va_A (wMo K hMo sMo) sz) := by
  refine Met.ofW (cc := cX11_feed) (maxL := 8) (ret := (some .int)) (by decide) rfl ?_
  intro p e s m args below meth c s₁ B hml hv
  obtain ⟨hargs, hsz, hP, hK, hD0⟩ := hv
  have hx := B.exec
  have hb := B.bytes
  have hr := B.returns
  have hts := atoms_spec (ws := wz_X11_feed) B.pre
  have htl : ∀ w ∈ wsL_law, w.before args s = true := fun w h => hts w (List.mem_cons_of_mem _ h)
  have hown : s.vm.findClass RX11 = some m.cls := findClass_of_methodNamed B.named
  have hlocks := B.notSynchronized
  subst hsz
  have hD := hD0.self (sz := s.heap.size)
  generalize hAe : va_A (wMo K hMo sMo) s.heap.size = A at hD ⊢
  have hA : ∀ q : Nat, s.heap.size ≤ q → A q := fun q h => by rw [← hAe]; exact Or.inr h
  have hS : va_S A s.heap s.heap [] := va_S.rf
  have iX11 : ∀ w ∈ wsX110, w ∈ wz_X11_feed := fun w h => List.mem_cons_of_mem _ (inlX11 w h)
  suffices hgo : ∀ Q : State → Prop, Q = MQ below (va_Qi (fun r u => r = res.1 ∧ u = res.2) (fun u t => BW D K A (wMo K hMo u) t) A) args s 0 0 A → W p l e (headSpec wz_X11_feed r_X11_feed).room s m args below meth c s.heap [] 0 0 Q (entryFrame m args 8) from hgo _ rfl
  intro Q hQ
  have w76 : ∀ (k23 : Int32 → MS → Option (Int32 × MS)), (∀ (x6 : Int32), ∀ (sMo : MS), ∀ (H : Heap) (locs : List Loc) (ls : Array Slot), k23 x6 sMo = some res → va_P D vwCl (wMo K hMo sMo) H → va_D A (wMo K hMo sMo) → va_S A s.heap H locs → lv_has ls 8 [(0, .ref (hMo 99)), (1, .int p1), (2, .int p2), (3, .int p3), (4, .int p4), (5, .int p5), (6, .int x6)] → W p l e (headSpec wz_X11_feed r_X11_feed).room s m args below meth c H locs 0 0 Q (F0 m 23 ls [])) → ∀ (x6 : Int32), ∀ (y0 : Int32), ∀ (sMo : MS), ∀ (H : Heap) (locs : List Loc) (ls : Array Slot), f_X11_feed_76 F p1 p2 p3 p4 p5 k23 x6 y0 sMo = some res → va_P D vwCl (wMo K hMo sMo) H → va_D A (wMo K hMo sMo) → va_S A s.heap H locs → lv_has ls 8 [(0, .ref (hMo 99)), (1, .int p1), (2, .int p2), (3, .int p3), (4, .int p4), (5, .int p5), (6, .int x6)] → W p l e (headSpec wz_X11_feed r_X11_feed).room s m args below meth c H locs 0 0 Q (F0 m 76 ls [.int y0]) := by
    intro k23 hk23 x6 y0 sMo H locs ls hf hP hD hS hl
    unfold f_X11_feed_76 at hf
    refine lv_istore (lv' := [(7, .int y0), (0, .ref (hMo 99)), (1, .int p1), (2, .int p2), (3, .int p3), (4, .int p4), (5, .int p5), (6, .int x6)]) hx hb dX11_feed_76 hl (by decide) rfl (fun ls hl => ?_)
    refine lv_aload_n hx hb dX11_feed_78 rfl (lv_at hl 1 rfl) ?_
    refine va_get (D := D) (ci := 10) (v := .ref (hMo 1)) (C := RX11) (T := TX11) (N := 41) hx hb hts iX11 hown hK hP 0 o_Mo rfl 1 (by decide) (htl _ (mB6 _ (List.mem_of_getElem? (i := 0) rfl))) (fun _ h9 => h9) rfl dX11_feed_79 ?_
    refine lv_aload_n hx hb dX11_feed_82 rfl (lv_at hl 1 rfl) ?_
    refine va_get (D := D) (ci := 10) (v := .int (sMo.1 2)) (C := RX11) (T := TX11) (N := 41) hx hb hts iX11 hown hK hP 0 o_Mo rfl 2 (by decide) (htl _ (mB7 _ (List.mem_of_getElem? (i := 8) rfl))) (fun _ h9 => h9) rfl dX11_feed_83 ?_
    refine lv_iload hx hb dX11_feed_86 (lv_at hl 0 rfl) ?_
    refine lv_bipush (v := (24 : Int32)) hx hb dX11_feed_88 (by decide) ?_
    refine lv_bipush (v := (8 : Int32)) hx hb dX11_feed_90 (by decide) ?_
    refine lv_iload hx hb dX11_feed_92 (lv_at hl 7 rfl) ?_
    refine lv_iconst (v := (4 : Int32)) hx hb dX11_feed_94 (by decide) ?_
    refine lv_irem hx hb dX11_feed_95 (by decide) ?_
    refine lv_imul hx hb dX11_feed_96 ?_
    refine lv_topi (fun v8 ev8 => ?_)
    have hf := lz_s hf v8 ev8
    refine lv_isub hx hb dX11_feed_97 ?_
    refine lv_ishr hx hb dX11_feed_98 ?_
    refine lv_sipush (v := (255 : Int32)) hx hb dX11_feed_99 (by decide) ?_
    refine lv_iand hx hb dX11_feed_102 ?_
    refine lv_topi (fun v9 ev9 => ?_)
    have hf := lz_s hf v9 ev9
    obtain ⟨g10, hf⟩ := gd_s hf
    refine va_iast hx hb hK hP hD hS 1 0 (f := sMo.2.2.1 1) a_Mo_1 rfl (vpb_in g10) dX11_feed_103 (fun H locs hP hD hS => ?_)
    have hP := cvP sa_Mo_1 hP
    have hD := cvD sa_Mo_1 hD
    obtain ⟨s11, es11⟩ : ∃ z, z = sA sMo 1 ((sMo.1 2).toNatClampNeg) v9 := ⟨_, rfl⟩
    have hP : va_P D vwCl (wMo K hMo s11) H := by rw [es11]; exact hP
    have hD : va_D A (wMo K hMo s11) := by rw [es11]; exact hD
    have hf := lz_s hf s11 es11
    refine lv_aload_n hx hb dX11_feed_104 rfl (lv_at hl 1 rfl) ?_
    refine lv_dup hx hb dX11_feed_105 rfl ?_
    refine va_get (D := D) (ci := 10) (v := .int (s11.1 2)) (C := RX11) (T := TX11) (N := 41) hx hb hts iX11 hown hK hP 0 o_Mo rfl 2 (by decide) (htl _ (mB7 _ (List.mem_of_getElem? (i := 8) rfl))) (fun _ h9 => h9) rfl dX11_feed_106 ?_
    refine lv_iconst (v := (1 : Int32)) hx hb dX11_feed_109 (by decide) ?_
    refine lv_iadd hx hb dX11_feed_110 ?_
    refine lv_topi (fun v12 ev12 => ?_)
    have hf := lz_s hf v12 ev12
    refine va_put (D := D) (ci := 10) (v := .int v12) (ty := .int) (C := RX11) (T := TX11) (N := 41) hx hb hts iX11 tyX11 tyX11_ok nmX11 hown hK hP hD hS 0 o_Mo rfl 2 (by decide) (htl _ (mB7 _ (List.mem_of_getElem? (i := 8) rfl))) (fun _ h9 => h9) rfl (by decide +kernel) rfl rfl (Nat.le_of_ble_eq_true rfl) dX11_feed_111 (fun H locs hP hD hS => ?_)
    have hP := cvP si_Mo_2 hP
    have hD := cvD si_Mo_2 hD
    obtain ⟨s13, es13⟩ : ∃ z, z = sI s11 2 v12 := ⟨_, rfl⟩
    have hP : va_P D vwCl (wMo K hMo s13) H := by rw [es13]; exact hP
    have hD : va_D A (wMo K hMo s13) := by rw [es13]; exact hD
    have hf := lz_s hf s13 es13
    obtain ⟨v14, ev14⟩ : ∃ z : Int32, z = x6 + (1 : Int32) := ⟨_, rfl⟩
    have hf := lz_s hf v14 ev14
    refine lv_iinc (v := v14) (lv' := [(6, .int v14), (7, .int y0), (0, .ref (hMo 99)), (1, .int p1), (2, .int p2), (3, .int p3), (4, .int p4), (5, .int p5)]) hx hb dX11_feed_114 hl (k := 7) rfl (by rw [ev14]; rfl) (by decide) rfl (fun ls hl => ?_)
    refine lv_goto (tgt := 23) hx hb dX11_feed_117 (by decide) ?_
    exact hk23 v14 s13 H locs ls hf hP hD hS (lv_sub hl [2, 3, 4, 5, 6, 7, 0] rfl)
  have w23 : ∀ (n : Nat), ∀ (x6 : Int32), ∀ (sMo : MS), ∀ (H : Heap) (locs : List Loc) (ls : Array Slot), f_X11_feed_23 F p1 p2 p3 p4 p5 n x6 sMo = some res → va_P D vwCl (wMo K hMo sMo) H → va_D A (wMo K hMo sMo) → va_S A s.heap H locs → lv_has ls 8 [(0, .ref (hMo 99)), (1, .int p1), (2, .int p2), (3, .int p3), (4, .int p4), (5, .int p5), (6, .int x6)] → W p l e (headSpec wz_X11_feed r_X11_feed).room s m args below meth c H locs 0 0 Q (F0 m 23 ls []) := by
    intro n
    induction n with
    | zero =>
      intro x6 sMo H locs ls hf
      exact absurd (show none = some res from hf) (fun h => nomatch h)
    | succ n ih =>
      intro x6 sMo H locs ls hf hP hD hS hl
      rw [f_X11_feed_23] at hf
      refine lv_iload hx hb dX11_feed_23 (lv_at hl 6 rfl) ?_
      refine lv_bipush (v := (20 : Int32)) hx hb dX11_feed_25 (by decide) ?_
      refine lv_icmp_ge (tgt := 120) hx hb dX11_feed_27 (by decide) (fun c3 => ?_) (fun c3 => ?_)
      · have hf := it_t hf c3
        refine lv_aload_n hx hb dX11_feed_120 rfl (lv_at hl 0 rfl) ?_
        refine va_get (D := D) (ci := 10) (v := .int (sMo.1 2)) (C := RX11) (T := TX11) (N := 41) hx hb hts iX11 hown hK hP 0 o_Mo rfl 2 (by decide) (htl _ (mB7 _ (List.mem_of_getElem? (i := 8) rfl))) (fun _ h9 => h9) rfl dX11_feed_121 ?_
        have e9 := Option.some.inj hf
        rw [hQ]
        exact W.iret (v := (sMo.1 2)) hx hb hr (fun t ht hW => ⟨⟨(sMo.1 2), sMo, rfl, ⟨pr1 e9, pr2 e9⟩, ⟨by rw [ht]; exact hP, va_K.moved hW.alike hK, hD⟩⟩, hS.F ht⟩) hS.2.2 dX11_feed_124
      · have hf := it_f hf c3
        refine lv_iload hx hb dX11_feed_30 (lv_at hl 6 rfl) ?_
        refine lv_iconst (v := (4 : Int32)) hx hb dX11_feed_32 (by decide) ?_
        refine lv_icmp_ge (tgt := 40) hx hb dX11_feed_33 (by decide) (fun c4 => ?_) (fun c4 => ?_)
        · have hf := it_t hf c4
          refine lv_iload hx hb dX11_feed_40 (lv_at hl 6 rfl) ?_
          refine lv_bipush (v := (8 : Int32)) hx hb dX11_feed_42 (by decide) ?_
          refine lv_icmp_ge (tgt := 51) hx hb dX11_feed_44 (by decide) (fun c5 => ?_) (fun c5 => ?_)
          · have hf := it_t hf c5
            refine lv_iload hx hb dX11_feed_51 (lv_at hl 6 rfl) ?_
            refine lv_bipush (v := (12 : Int32)) hx hb dX11_feed_53 (by decide) ?_
            refine lv_icmp_ge (tgt := 62) hx hb dX11_feed_55 (by decide) (fun c6 => ?_) (fun c6 => ?_)
            · have hf := it_t hf c6
              refine lv_iload hx hb dX11_feed_62 (lv_at hl 6 rfl) ?_
              refine lv_bipush (v := (16 : Int32)) hx hb dX11_feed_64 (by decide) ?_
              refine lv_icmp_ge (tgt := 74) hx hb dX11_feed_66 (by decide) (fun c7 => ?_) (fun c7 => ?_)
              · have hf := it_t hf c7
                refine lv_iload hx hb dX11_feed_74 (lv_at hl 5 rfl) ?_
                exact w76 (f_X11_feed_23 F p1 p2 p3 p4 p5 n) ih x6 p5 sMo H locs ls hf hP hD hS (lv_sub hl [0, 1, 2, 3, 4, 5, 6] rfl)
              · have hf := it_f hf c7
                refine lv_iload hx hb dX11_feed_69 (lv_at hl 4 rfl) ?_
                refine lv_goto (tgt := 76) hx hb dX11_feed_71 (by decide) ?_
                exact w76 (f_X11_feed_23 F p1 p2 p3 p4 p5 n) ih x6 p4 sMo H locs ls hf hP hD hS (lv_sub hl [0, 1, 2, 3, 4, 5, 6] rfl)
            · have hf := it_f hf c6
              refine lv_iload_n hx hb dX11_feed_58 rfl (lv_at hl 3 rfl) ?_
              refine lv_goto (tgt := 76) hx hb dX11_feed_59 (by decide) ?_
              exact w76 (f_X11_feed_23 F p1 p2 p3 p4 p5 n) ih x6 p3 sMo H locs ls hf hP hD hS (lv_sub hl [0, 1, 2, 3, 4, 5, 6] rfl)
          · have hf := it_f hf c5
            refine lv_iload_n hx hb dX11_feed_47 rfl (lv_at hl 2 rfl) ?_
            refine lv_goto (tgt := 76) hx hb dX11_feed_48 (by decide) ?_
            exact w76 (f_X11_feed_23 F p1 p2 p3 p4 p5 n) ih x6 p2 sMo H locs ls hf hP hD hS (lv_sub hl [0, 1, 2, 3, 4, 5, 6] rfl)
        · have hf := it_f hf c4
          refine lv_iload_n hx hb dX11_feed_36 rfl (lv_at hl 1 rfl) ?_
          refine lv_goto (tgt := 76) hx hb dX11_feed_37 (by decide) ?_
          exact w76 (f_X11_feed_23 F p1 p2 p3 p4 p5 n) ih x6 p1 sMo H locs ls hf hP hD hS (lv_sub hl [0, 1, 2, 3, 4, 5, 6] rfl)
  have hen : entryFrame m args 8 = entryFrame m (([.ref (hMo 99), .int p1, .int p2, .int p3, .int p4, .int p5] : List Value).toArray) 8 := by rw [hargs]
  have hl := lv_entry ([.ref (hMo 99), .int p1, .int p2, .int p3, .int p4, .int p5]) (n := 8) (Nat.le_of_ble_eq_true rfl)
  rw [hen, lg_entry_eq]
  generalize (lg_sl ([.ref (hMo 99), .int p1, .int p2, .int p3, .int p4, .int p5]) ++ List.replicate (8 - (lg_sl ([.ref (hMo 99), .int p1, .int p2, .int p3, .int p4, .int p5])).length) Slot.unset).toArray = ls at hl ⊢
  have hl : lv_has ls 8 [(0, .ref (hMo 99)), (1, .int p1), (2, .int p2), (3, .int p3), (4, .int p4), (5, .int p5)] := hl
  unfold f_X11_feed at hf
  obtain ⟨H, hHe⟩ : ∃ z, z = s.heap := ⟨_, rfl⟩
  obtain ⟨locs, hLe⟩ : ∃ z : List Loc, z = [] := ⟨_, rfl⟩
  rw [← hLe]
  have hS : va_S A s.heap H locs := by rw [hHe, hLe]; exact hS
  have hP : va_P D vwCl (wMo K hMo sMo) H := by rw [hHe]; exact hP
  have hgo : W p l e (headSpec wz_X11_feed r_X11_feed).room s m args below meth c H locs 0 0 Q (F0 m 0 ls []) := by
    refine lv_aload_n hx hb dX11_feed_0 rfl (lv_at hl 0 rfl) ?_
    refine lv_iconst (v := (0 : Int32)) hx hb dX11_feed_1 (by decide) ?_
    refine va_put (D := D) (ci := 10) (v := .int (0 : Int32)) (ty := .int) (C := RX11) (T := TX11) (N := 41) hx hb hts iX11 tyX11 tyX11_ok nmX11 hown hK hP hD hS 0 o_Mo rfl 0 (by decide) (htl _ (mB7 _ (List.mem_of_getElem? (i := 7) rfl))) (fun _ h9 => h9) rfl (by decide +kernel) rfl rfl (Nat.le_of_ble_eq_true rfl) dX11_feed_2 (fun H locs hP hD hS => ?_)
    have hP := cvP si_Mo_0 hP
    have hD := cvD si_Mo_0 hD
    obtain ⟨s1, es1⟩ : ∃ z, z = sI sMo 0 (0 : Int32) := ⟨_, rfl⟩
    have hP : va_P D vwCl (wMo K hMo s1) H := by rw [es1]; exact hP
    have hD : va_D A (wMo K hMo s1) := by rw [es1]; exact hD
    have hf := lz_s hf s1 es1
    refine lv_aload_n hx hb dX11_feed_5 rfl (lv_at hl 0 rfl) ?_
    refine va_get (D := D) (ci := 10) (v := .int (s1.1 2)) (C := RX11) (T := TX11) (N := 41) hx hb hts iX11 hown hK hP 0 o_Mo rfl 2 (by decide) (htl _ (mB7 _ (List.mem_of_getElem? (i := 8) rfl))) (fun _ h9 => h9) rfl dX11_feed_6 ?_
    refine lv_bipush (v := (20 : Int32)) hx hb dX11_feed_9 (by decide) ?_
    refine lv_iadd hx hb dX11_feed_11 ?_
    refine lv_sipush (v := (800 : Int32)) hx hb dX11_feed_12 (by decide) ?_
    refine lv_icmp_le (tgt := 20) hx hb dX11_feed_15 (by decide) (fun c2 => ?_) (fun c2 => ?_)
    · have hf := it_t hf c2
      refine lv_iconst (v := (0 : Int32)) hx hb dX11_feed_20 (by decide) ?_
      refine lv_istore (lv' := [(6, .int (0 : Int32)), (0, .ref (hMo 99)), (1, .int p1), (2, .int p2), (3, .int p3), (4, .int p4), (5, .int p5)]) hx hb dX11_feed_21 hl (by decide) rfl (fun ls hl => ?_)
      exact w23 F (0 : Int32) s1 H locs ls hf hP hD hS (lv_sub hl [1, 2, 3, 4, 5, 6, 0] rfl)
    · have hf := it_f hf c2
      refine lv_iconst (v := (-1 : Int32)) hx hb dX11_feed_18 (by decide) ?_
      have e9 := Option.some.inj hf
      rw [hQ]
      exact W.iret (v := (-1 : Int32)) hx hb hr (fun t ht hW => ⟨⟨(-1 : Int32), s1, rfl, ⟨pr1 e9, pr2 e9⟩, ⟨by rw [ht]; exact hP, va_K.moved hW.alike hK, hD⟩⟩, hS.F ht⟩) hS.2.2 dX11_feed_19
  rw [hHe] at hgo
  exact hgo

def wz_X11_look : List Cond := .code yX11_look cX11_look 2 (some .int) :: wsL_law
abbrev r_X11_look : Room := { frames := 0, cells := 0, slots := 0, locals := 0 }
set_option maxHeartbeats 4000000 in
set_option maxRecDepth 100000 in
theorem c_X11_look (l : Launch) (D : va_G) (K : Nat → ClassId) (F : Nat) (hMo : Nat → Nat) (sMo : MS) (p1 : Int32) (res : Int32) (hf : f_X11_look F sMo p1 = some res) : Met l yX11_look wz_X11_look r_X11_look (va_Pc [.ref (hMo 99), .int p1] (PR D K (wMo K hMo sMo))) (va_Qi (fun r (_ : Unit) => r = res) BN nOne) 0 0 nOne := by
  refine Met.ofW (cc := cX11_look) (maxL := 2) (ret := (some .int)) (by decide) rfl ?_
  intro p e s m args below meth c s₁ B hml hv
  obtain ⟨hargs, hP, hK⟩ := hv
  have hx := B.exec
  have hb := B.bytes
  have hr := B.returns
  have hts := atoms_spec (ws := wz_X11_look) B.pre
  have htl : ∀ w ∈ wsL_law, w.before args s = true := fun w h => hts w (List.mem_cons_of_mem _ h)
  have hown : s.vm.findClass RX11 = some m.cls := findClass_of_methodNamed B.named
  have hlocks := B.notSynchronized
  have hS : va_S nOne s.heap s.heap [] := va_S.rf
  have iX11 : ∀ w ∈ wsX110, w ∈ wz_X11_look := fun w h => List.mem_cons_of_mem _ (inlX11 w h)
  suffices hgo : ∀ Q : State → Prop, Q = MQ below (va_Qi (fun r (_ : Unit) => r = res) BN nOne) args s 0 0 nOne → W p l e (headSpec wz_X11_look r_X11_look).room s m args below meth c s.heap [] 0 0 Q (entryFrame m args 2) from hgo _ rfl
  intro Q hQ
  have hen : entryFrame m args 2 = entryFrame m (([.ref (hMo 99), .int p1] : List Value).toArray) 2 := by rw [hargs]
  have hl := lv_entry ([.ref (hMo 99), .int p1]) (n := 2) (Nat.le_of_ble_eq_true rfl)
  rw [hen, lg_entry_eq]
  generalize (lg_sl ([.ref (hMo 99), .int p1]) ++ List.replicate (2 - (lg_sl ([.ref (hMo 99), .int p1])).length) Slot.unset).toArray = ls at hl ⊢
  have hl : lv_has ls 2 [(0, .ref (hMo 99)), (1, .int p1)] := hl
  unfold f_X11_look at hf
  obtain ⟨H, hHe⟩ : ∃ z, z = s.heap := ⟨_, rfl⟩
  obtain ⟨locs, hLe⟩ : ∃ z : List Loc, z = [] := ⟨_, rfl⟩
  rw [← hLe]
  have hS : va_S nOne s.heap H locs := by rw [hHe, hLe]; exact hS
  have hP : va_P D vwCl (wMo K hMo sMo) H := by rw [hHe]; exact hP
  have hgo : W p l e (headSpec wz_X11_look r_X11_look).room s m args below meth c H locs 0 0 Q (F0 m 0 ls []) := by
    refine lv_iload_n hx hb dX11_look_0 rfl (lv_at hl 1 rfl) ?_
    refine lv_aload_n hx hb dX11_look_1 rfl (lv_at hl 0 rfl) ?_
    refine va_get (D := D) (ci := 10) (v := .int (sMo.1 3)) (C := RX11) (T := TX11) (N := 41) hx hb hts iX11 hown hK hP 0 o_Mo rfl 3 (by decide) (htl _ (mB18 _ (List.mem_of_getElem? (i := 0) rfl))) (fun _ h9 => h9) rfl dX11_look_2 ?_
    refine lv_icmp_ge (tgt := 17) hx hb dX11_look_5 (by decide) (fun c1 => ?_) (fun c1 => ?_)
    · have hf := it_t hf c1
      refine lv_iconst (v := (-1 : Int32)) hx hb dX11_look_17 (by decide) ?_
      have e9 := Option.some.inj hf
      rw [hQ]
      exact W.iret (v := (-1 : Int32)) hx hb hr (fun t ht hW => ⟨⟨(-1 : Int32), (), rfl, e9, trivial⟩, hS.F ht⟩) hS.2.2 dX11_look_18
    · have hf := it_f hf c1
      refine lv_aload_n hx hb dX11_look_8 rfl (lv_at hl 0 rfl) ?_
      refine va_get (D := D) (ci := 10) (v := .ref (hMo 1)) (C := RX11) (T := TX11) (N := 41) hx hb hts iX11 hown hK hP 0 o_Mo rfl 1 (by decide) (htl _ (mB6 _ (List.mem_of_getElem? (i := 0) rfl))) (fun _ h9 => h9) rfl dX11_look_9 ?_
      refine lv_iload_n hx hb dX11_look_12 rfl (lv_at hl 1 rfl) ?_
      obtain ⟨g2, hf⟩ := gd_s hf
      refine va_iald hx hb hK hP 1 0 (f := sMo.2.2.1 1) a_Mo_1 rfl (vpb_in g2) dX11_look_13 ?_
      refine lv_goto (tgt := 18) hx hb dX11_look_14 (by decide) ?_
      have e9 := Option.some.inj hf
      rw [hQ]
      exact W.iret (v := (sMo.2.2.1 1 p1.toNatClampNeg)) hx hb hr (fun t ht hW => ⟨⟨(sMo.2.2.1 1 p1.toNatClampNeg), (), rfl, e9, trivial⟩, hS.F ht⟩) hS.2.2 dX11_look_18
  rw [hHe] at hgo
  exact hgo

def wz_X11_isSmall : List Cond := .code yX11_isSmall cX11_isSmall 1 (some .boolean) :: wsL_law
abbrev r_X11_isSmall : Room := { frames := 0, cells := 0, slots := 0, locals := 0 }
set_option maxHeartbeats 4000000 in
set_option maxRecDepth 100000 in
theorem c_X11_isSmall (l : Launch) (D : va_G) (K : Nat → ClassId) (F : Nat) (p0 : Int32) (res : Int32) (hf : f_X11_isSmall F p0 = some res) : Met l yX11_isSmall wz_X11_isSmall r_X11_isSmall (va_Pc [.int p0] (PR D K (([] : va_W)))) (va_Qi (fun r (_ : Unit) => r = res) BN nOne) 0 0 nOne := by
  refine Met.ofW (cc := cX11_isSmall) (maxL := 1) (ret := (some .boolean)) (by decide) rfl ?_
  intro p e s m args below meth c s₁ B hml hv
  obtain ⟨hargs, hP, hK⟩ := hv
  have hx := B.exec
  have hb := B.bytes
  have hr := B.returns
  have hts := atoms_spec (ws := wz_X11_isSmall) B.pre
  have htl : ∀ w ∈ wsL_law, w.before args s = true := fun w h => hts w (List.mem_cons_of_mem _ h)
  have hown : s.vm.findClass RX11 = some m.cls := findClass_of_methodNamed B.named
  have hlocks := B.notSynchronized
  have hS : va_S nOne s.heap s.heap [] := va_S.rf
  suffices hgo : ∀ Q : State → Prop, Q = MQ below (va_Qi (fun r (_ : Unit) => r = res) BN nOne) args s 0 0 nOne → W p l e (headSpec wz_X11_isSmall r_X11_isSmall).room s m args below meth c s.heap [] 0 0 Q (entryFrame m args 1) from hgo _ rfl
  intro Q hQ
  have hen : entryFrame m args 1 = entryFrame m (([.int p0] : List Value).toArray) 1 := by rw [hargs]
  have hl := lv_entry ([.int p0]) (n := 1) (Nat.le_of_ble_eq_true rfl)
  rw [hen, lg_entry_eq]
  generalize (lg_sl ([.int p0]) ++ List.replicate (1 - (lg_sl ([.int p0])).length) Slot.unset).toArray = ls at hl ⊢
  have hl : lv_has ls 1 [(0, .int p0)] := hl
  unfold f_X11_isSmall at hf
  obtain ⟨H, hHe⟩ : ∃ z, z = s.heap := ⟨_, rfl⟩
  obtain ⟨locs, hLe⟩ : ∃ z : List Loc, z = [] := ⟨_, rfl⟩
  rw [← hLe]
  have hS : va_S nOne s.heap H locs := by rw [hHe, hLe]; exact hS
  have hP : va_P D vwCl (([] : va_W)) H := by rw [hHe]; exact hP
  have hgo : W p l e (headSpec wz_X11_isSmall r_X11_isSmall).room s m args below meth c H locs 0 0 Q (F0 m 0 ls []) := by
    refine lv_iload_n hx hb dX11_isSmall_0 rfl (lv_at hl 0 rfl) ?_
    refine lv_bipush (v := (97 : Int32)) hx hb dX11_isSmall_1 (by decide) ?_
    refine lv_icmp_lt (tgt := 16) hx hb dX11_isSmall_3 (by decide) (fun c1 => ?_) (fun c1 => ?_)
    · have hf := it_t hf c1
      refine lv_iconst (v := (0 : Int32)) hx hb dX11_isSmall_16 (by decide) ?_
      have e9 := Option.some.inj hf
      rw [hQ]
      exact W.zret (v := (0 : Int32)) hx hb hr rfl (fun t ht hW => ⟨⟨(0 : Int32), (), rfl, e9, trivial⟩, hS.F ht⟩) hS.2.2 dX11_isSmall_17
    · have hf := it_f hf c1
      refine lv_iload_n hx hb dX11_isSmall_6 rfl (lv_at hl 0 rfl) ?_
      refine lv_bipush (v := (122 : Int32)) hx hb dX11_isSmall_7 (by decide) ?_
      refine lv_icmp_gt (tgt := 16) hx hb dX11_isSmall_9 (by decide) (fun c2 => ?_) (fun c2 => ?_)
      · have hf := it_t hf c2
        refine lv_iconst (v := (0 : Int32)) hx hb dX11_isSmall_16 (by decide) ?_
        have e9 := Option.some.inj hf
        rw [hQ]
        exact W.zret (v := (0 : Int32)) hx hb hr rfl (fun t ht hW => ⟨⟨(0 : Int32), (), rfl, e9, trivial⟩, hS.F ht⟩) hS.2.2 dX11_isSmall_17
      · have hf := it_f hf c2
        refine lv_iconst (v := (1 : Int32)) hx hb dX11_isSmall_12 (by decide) ?_
        refine lv_goto (tgt := 17) hx hb dX11_isSmall_13 (by decide) ?_
        have e9 := Option.some.inj hf
        rw [hQ]
        exact W.zret (v := (1 : Int32)) hx hb hr rfl (fun t ht hW => ⟨⟨(1 : Int32), (), rfl, e9, trivial⟩, hS.F ht⟩) hS.2.2 dX11_isSmall_17
  rw [hHe] at hgo
  exact hgo

def wz_X11_isDigit : List Cond := .code yX11_isDigit cX11_isDigit 1 (some .boolean) :: wsL_law
abbrev r_X11_isDigit : Room := { frames := 0, cells := 0, slots := 0, locals := 0 }
set_option maxHeartbeats 4000000 in
set_option maxRecDepth 100000 in
theorem c_X11_isDigit (l : Launch) (D : va_G) (K : Nat → ClassId) (F : Nat) (p0 : Int32) (res : Int32) (hf : f_X11_isDigit F p0 = some res) : Met l yX11_isDigit wz_X11_isDigit r_X11_isDigit (va_Pc [.int p0] (PR D K (([] : va_W)))) (va_Qi (fun r (_ : Unit) => r = res) BN nOne) 0 0 nOne := by
  refine Met.ofW (cc := cX11_isDigit) (maxL := 1) (ret := (some .boolean)) (by decide) rfl ?_
  intro p e s m args below meth c s₁ B hml hv
  obtain ⟨hargs, hP, hK⟩ := hv
  have hx := B.exec
  have hb := B.bytes
  have hr := B.returns
  have hts := atoms_spec (ws := wz_X11_isDigit) B.pre
  have htl : ∀ w ∈ wsL_law, w.before args s = true := fun w h => hts w (List.mem_cons_of_mem _ h)
  have hown : s.vm.findClass RX11 = some m.cls := findClass_of_methodNamed B.named
  have hlocks := B.notSynchronized
  have hS : va_S nOne s.heap s.heap [] := va_S.rf
  suffices hgo : ∀ Q : State → Prop, Q = MQ below (va_Qi (fun r (_ : Unit) => r = res) BN nOne) args s 0 0 nOne → W p l e (headSpec wz_X11_isDigit r_X11_isDigit).room s m args below meth c s.heap [] 0 0 Q (entryFrame m args 1) from hgo _ rfl
  intro Q hQ
  have hen : entryFrame m args 1 = entryFrame m (([.int p0] : List Value).toArray) 1 := by rw [hargs]
  have hl := lv_entry ([.int p0]) (n := 1) (Nat.le_of_ble_eq_true rfl)
  rw [hen, lg_entry_eq]
  generalize (lg_sl ([.int p0]) ++ List.replicate (1 - (lg_sl ([.int p0])).length) Slot.unset).toArray = ls at hl ⊢
  have hl : lv_has ls 1 [(0, .int p0)] := hl
  unfold f_X11_isDigit at hf
  obtain ⟨H, hHe⟩ : ∃ z, z = s.heap := ⟨_, rfl⟩
  obtain ⟨locs, hLe⟩ : ∃ z : List Loc, z = [] := ⟨_, rfl⟩
  rw [← hLe]
  have hS : va_S nOne s.heap H locs := by rw [hHe, hLe]; exact hS
  have hP : va_P D vwCl (([] : va_W)) H := by rw [hHe]; exact hP
  have hgo : W p l e (headSpec wz_X11_isDigit r_X11_isDigit).room s m args below meth c H locs 0 0 Q (F0 m 0 ls []) := by
    refine lv_iload_n hx hb dX11_isDigit_0 rfl (lv_at hl 0 rfl) ?_
    refine lv_bipush (v := (48 : Int32)) hx hb dX11_isDigit_1 (by decide) ?_
    refine lv_icmp_lt (tgt := 16) hx hb dX11_isDigit_3 (by decide) (fun c1 => ?_) (fun c1 => ?_)
    · have hf := it_t hf c1
      refine lv_iconst (v := (0 : Int32)) hx hb dX11_isDigit_16 (by decide) ?_
      have e9 := Option.some.inj hf
      rw [hQ]
      exact W.zret (v := (0 : Int32)) hx hb hr rfl (fun t ht hW => ⟨⟨(0 : Int32), (), rfl, e9, trivial⟩, hS.F ht⟩) hS.2.2 dX11_isDigit_17
    · have hf := it_f hf c1
      refine lv_iload_n hx hb dX11_isDigit_6 rfl (lv_at hl 0 rfl) ?_
      refine lv_bipush (v := (57 : Int32)) hx hb dX11_isDigit_7 (by decide) ?_
      refine lv_icmp_gt (tgt := 16) hx hb dX11_isDigit_9 (by decide) (fun c2 => ?_) (fun c2 => ?_)
      · have hf := it_t hf c2
        refine lv_iconst (v := (0 : Int32)) hx hb dX11_isDigit_16 (by decide) ?_
        have e9 := Option.some.inj hf
        rw [hQ]
        exact W.zret (v := (0 : Int32)) hx hb hr rfl (fun t ht hW => ⟨⟨(0 : Int32), (), rfl, e9, trivial⟩, hS.F ht⟩) hS.2.2 dX11_isDigit_17
      · have hf := it_f hf c2
        refine lv_iconst (v := (1 : Int32)) hx hb dX11_isDigit_12 (by decide) ?_
        refine lv_goto (tgt := 17) hx hb dX11_isDigit_13 (by decide) ?_
        have e9 := Option.some.inj hf
        rw [hQ]
        exact W.zret (v := (1 : Int32)) hx hb hr rfl (fun t ht hW => ⟨⟨(1 : Int32), (), rfl, e9, trivial⟩, hS.F ht⟩) hS.2.2 dX11_isDigit_17
  rw [hHe] at hgo
  exact hgo

theorem gcV_X11_look {T0 : Cond} {own : String} {i : Nat} (h : Cond.methodLink own i yX11_look ∈ wsL_law) : GoodIn (T0 :: wsL_law) (wsV own i RX11 yX11_look wz_X11_look) := gV h (mB19 _ (List.mem_of_getElem? (i := 2) rfl)) (mB19 _ (List.mem_of_getElem? (i := 3) rfl)) (mB1 _ (List.mem_of_getElem? (i := 5) rfl)) (mB19 _ (List.mem_of_getElem? (i := 4) rfl))
theorem hdV_X11_look : yX11_look.cls = RX11 ∧ yX11_look.cls ≠ "java/lang/invoke/MethodHandle" ∧ yX11_look.cls ≠ "java/lang/invoke/VarHandle" ∧ (parseMethodDescriptor yX11_look.desc).map (fun d => d.parameters.length) = some 1 := by decide +kernel
theorem gcS_X11_isSmall {T0 : Cond} {own : String} {i : Nat} (h : Cond.methodLink own i yX11_isSmall ∈ wsL_law) : GoodIn (T0 :: wsL_law) (va_wsS own i yX11_isSmall wz_X11_isSmall) := gS h (mB19 _ (List.mem_of_getElem? (i := 6) rfl)) (mB1 _ (List.mem_of_getElem? (i := 5) rfl)) (mB19 _ (List.mem_of_getElem? (i := 7) rfl))
theorem hdS_X11_isSmall : yX11_isSmall.cls ≠ "java/lang/invoke/MethodHandle" ∧ yX11_isSmall.cls ≠ "java/lang/invoke/VarHandle" ∧ (parseMethodDescriptor yX11_isSmall.desc).map (fun d => d.parameters.length) = some 1 := by decide +kernel
theorem gcS_X11_isDigit {T0 : Cond} {own : String} {i : Nat} (h : Cond.methodLink own i yX11_isDigit ∈ wsL_law) : GoodIn (T0 :: wsL_law) (va_wsS own i yX11_isDigit wz_X11_isDigit) := gS h (mB19 _ (List.mem_of_getElem? (i := 9) rfl)) (mB1 _ (List.mem_of_getElem? (i := 5) rfl)) (mB19 _ (List.mem_of_getElem? (i := 10) rfl))
theorem hdS_X11_isDigit : yX11_isDigit.cls ≠ "java/lang/invoke/MethodHandle" ∧ yX11_isDigit.cls ≠ "java/lang/invoke/VarHandle" ∧ (parseMethodDescriptor yX11_isDigit.desc).map (fun d => d.parameters.length) = some 1 := by decide +kernel
def wz_X11_next : List Cond := .code yX11_next cX11_next 4 none :: wsL_law
abbrev r_X11_next : Room := { frames := 1, cells := 0, slots := 0, locals := 21 }
set_option maxHeartbeats 4000000 in
set_option maxRecDepth 100000 in
theorem c_X11_next (l : Launch) (D : va_G) (K : Nat → ClassId) (F : Nat) (hMo : Nat → Nat) (sz : Nat) (sMo : MS) (res : MS) (hf : f_X11_next F sMo = some res) : Met l yX11_next wz_X11_next r_X11_next (va_Pc [.ref (hMo 99)] (PW D K (wMo K hMo sMo) sz)) (va_Qv (fun u => u = res) (fun u t => BW D K (va_A (wMo K hMo sMo) sz) (wMo K hMo u) t) (va_A (wMo K hMo sMo) sz)) 0 0 (va_A (wMo K hMo sMo) sz) := by
  refine Met.ofW (cc := cX11_next) (maxL := 4) (ret := none) (by decide) rfl ?_
  intro p e s m args below meth c s₁ B hml hv
  obtain ⟨hargs, hsz, hP, hK, hD0⟩ := hv
  have hx := B.exec
  have hb := B.bytes
  have hr := B.returns
  have hts := atoms_spec (ws := wz_X11_next) B.pre
  have htl : ∀ w ∈ wsL_law, w.before args s = true := fun w h => hts w (List.mem_cons_of_mem _ h)
  have hown : s.vm.findClass RX11 = some m.cls := findClass_of_methodNamed B.named
  have hlocks := B.notSynchronized
  subst hsz
  have hD := hD0.self (sz := s.heap.size)
  generalize hAe : va_A (wMo K hMo sMo) s.heap.size = A at hD ⊢
  have hA : ∀ q : Nat, s.heap.size ≤ q → A q := fun q h => by rw [← hAe]; exact Or.inr h
  have hS : va_S A s.heap s.heap [] := va_S.rf
  have iX11 : ∀ w ∈ wsX110, w ∈ wz_X11_next := fun w h => List.mem_cons_of_mem _ (inlX11 w h)
  suffices hgo : ∀ Q : State → Prop, Q = MQ below (va_Qv (fun u => u = res) (fun u t => BW D K A (wMo K hMo u) t) A) args s 0 0 A → W p l e (headSpec wz_X11_next r_X11_next).room s m args below meth c s.heap [] 0 0 Q (entryFrame m args 4) from hgo _ rfl
  intro Q hQ
  have w244 : ∀ (y1 : Int32), ∀ (sMo : MS), ∀ (H : Heap) (locs : List Loc) (ls : Array Slot), f_X11_next_244 F y1 sMo = some res → va_P D vwCl (wMo K hMo sMo) H → va_D A (wMo K hMo sMo) → va_S A s.heap H locs → lv_has ls 4 [] → W p l e (headSpec wz_X11_next r_X11_next).room s m args below meth c H locs 0 0 Q (F0 m 244 ls [.int y1, .ref (hMo 99)]) := by
    intro y1 sMo H locs ls hf hP hD hS hl
    unfold f_X11_next_244 at hf
    refine va_put (D := D) (ci := 10) (v := .int y1) (ty := .int) (C := RX11) (T := TX11) (N := 41) hx hb hts iX11 tyX11 tyX11_ok nmX11 hown hK hP hD hS 0 o_Mo rfl 6 (by decide) (htl _ (mB18 _ (List.mem_of_getElem? (i := 2) rfl))) (fun _ h9 => h9) rfl (by decide +kernel) rfl rfl (Nat.le_of_ble_eq_true rfl) dX11_next_244 (fun H locs hP hD hS => ?_)
    have hP := cvP si_Mo_6 hP
    have hD := cvD si_Mo_6 hD
    obtain ⟨s43, es43⟩ : ∃ z, z = sI sMo 6 y1 := ⟨_, rfl⟩
    have hP : va_P D vwCl (wMo K hMo s43) H := by rw [es43]; exact hP
    have hD : va_D A (wMo K hMo s43) := by rw [es43]; exact hD
    have hf := lz_s hf s43 es43
    have e9 := Option.some.inj hf
    rw [hQ]
    exact W.vret hx hb hr (fun t ht hW => ⟨⟨s43, rfl, e9, ⟨by rw [ht]; exact hP, va_K.moved hW.alike hK, hD⟩⟩, hS.F ht⟩) hS.2.2 dX11_next_247
  have w239 : ∀ (x2 : Int32), ∀ (sMo : MS), ∀ (H : Heap) (locs : List Loc) (ls : Array Slot), f_X11_next_239 F x2 sMo = some res → va_P D vwCl (wMo K hMo sMo) H → va_D A (wMo K hMo sMo) → va_S A s.heap H locs → lv_has ls 4 [(2, .int x2)] → W p l e (headSpec wz_X11_next r_X11_next).room s m args below meth c H locs 0 0 Q (F0 m 239 ls [.ref (hMo 99)]) := by
    intro x2 sMo H locs ls hf hP hD hS hl
    unfold f_X11_next_239 at hf
    refine lv_iload_n hx hb dX11_next_239 rfl (lv_at hl 0 rfl) ?_
    refine lv_goto (tgt := 244) hx hb dX11_next_240 (by decide) ?_
    exact w244 x2 sMo H locs ls hf hP hD hS (lv_sub hl [] rfl)
  have w213 : ∀ (y1 : Int32), ∀ (sMo : MS), ∀ (H : Heap) (locs : List Loc) (ls : Array Slot), f_X11_next_213 F y1 sMo = some res → va_P D vwCl (wMo K hMo sMo) H → va_D A (wMo K hMo sMo) → va_S A s.heap H locs → lv_has ls 4 [] → W p l e (headSpec wz_X11_next r_X11_next).room s m args below meth c H locs 0 0 Q (F0 m 213 ls [.int y1, .ref (hMo 99)]) := by
    intro y1 sMo H locs ls hf hP hD hS hl
    unfold f_X11_next_213 at hf
    refine va_put (D := D) (ci := 10) (v := .int y1) (ty := .int) (C := RX11) (T := TX11) (N := 41) hx hb hts iX11 tyX11 tyX11_ok nmX11 hown hK hP hD hS 0 o_Mo rfl 6 (by decide) (htl _ (mB18 _ (List.mem_of_getElem? (i := 2) rfl))) (fun _ h9 => h9) rfl (by decide +kernel) rfl rfl (Nat.le_of_ble_eq_true rfl) dX11_next_213 (fun H locs hP hD hS => ?_)
    have hP := cvP si_Mo_6 hP
    have hD := cvD si_Mo_6 hD
    obtain ⟨s42, es42⟩ : ∃ z, z = sI sMo 6 y1 := ⟨_, rfl⟩
    have hP : va_P D vwCl (wMo K hMo s42) H := by rw [es42]; exact hP
    have hD : va_D A (wMo K hMo s42) := by rw [es42]; exact hD
    have hf := lz_s hf s42 es42
    refine lv_goto (tgt := 247) hx hb dX11_next_216 (by decide) ?_
    have e9 := Option.some.inj hf
    rw [hQ]
    exact W.vret hx hb hr (fun t ht hW => ⟨⟨s42, rfl, e9, ⟨by rw [ht]; exact hP, va_K.moved hW.alike hK, hD⟩⟩, hS.F ht⟩) hS.2.2 dX11_next_247
  have w197 : ∀ (x1 : Int32), ∀ (x3 : Int32), ∀ (sMo : MS), ∀ (H : Heap) (locs : List Loc) (ls : Array Slot), f_X11_next_197 F x1 x3 sMo = some res → va_P D vwCl (wMo K hMo sMo) H → va_D A (wMo K hMo sMo) → va_S A s.heap H locs → lv_has ls 4 [(0, .ref (hMo 99)), (1, .int x1), (3, .int x3)] → W p l e (headSpec wz_X11_next r_X11_next).room s m args below meth c H locs 0 0 Q (F0 m 197 ls []) := by
    intro x1 x3 sMo H locs ls hf hP hD hS hl
    unfold f_X11_next_197 at hf
    refine lv_aload_n hx hb dX11_next_197 rfl (lv_at hl 0 rfl) ?_
    refine lv_iload_n hx hb dX11_next_198 rfl (lv_at hl 1 rfl) ?_
    refine va_put (D := D) (ci := 10) (v := .int x1) (ty := .int) (C := RX11) (T := TX11) (N := 41) hx hb hts iX11 tyX11 tyX11_ok nmX11 hown hK hP hD hS 0 o_Mo rfl 5 (by decide) (htl _ (mB18 _ (List.mem_of_getElem? (i := 1) rfl))) (fun _ h9 => h9) rfl (by decide +kernel) rfl rfl (Nat.le_of_ble_eq_true rfl) dX11_next_199 (fun H locs hP hD hS => ?_)
    have hP := cvP si_Mo_5 hP
    have hD := cvD si_Mo_5 hD
    obtain ⟨s40, es40⟩ : ∃ z, z = sI sMo 5 x1 := ⟨_, rfl⟩
    have hP : va_P D vwCl (wMo K hMo s40) H := by rw [es40]; exact hP
    have hD : va_D A (wMo K hMo s40) := by rw [es40]; exact hD
    have hf := lz_s hf s40 es40
    refine lv_aload_n hx hb dX11_next_202 rfl (lv_at hl 0 rfl) ?_
    refine lv_iload_n hx hb dX11_next_203 rfl (lv_at hl 2 rfl) ?_
    refine lv_iconst (v := (3 : Int32)) hx hb dX11_next_204 (by decide) ?_
    refine lv_icmp_le (tgt := 212) hx hb dX11_next_205 (by decide) (fun c41 => ?_) (fun c41 => ?_)
    · have hf := it_t hf c41
      refine lv_iconst (v := (3 : Int32)) hx hb dX11_next_212 (by decide) ?_
      exact w213 (3 : Int32) s40 H locs ls hf hP hD hS (lv_sub hl [] rfl)
    · have hf := it_f hf c41
      refine lv_iconst (v := (1 : Int32)) hx hb dX11_next_208 (by decide) ?_
      refine lv_goto (tgt := 213) hx hb dX11_next_209 (by decide) ?_
      exact w213 (1 : Int32) s40 H locs ls hf hP hD hS (lv_sub hl [] rfl)
  have w188 : ∀ (k152 : Int32 → Int32 → MS → Option MS), (∀ (x1 : Int32), ∀ (x3 : Int32), ∀ (sMo : MS), ∀ (H : Heap) (locs : List Loc) (ls : Array Slot), k152 x1 x3 sMo = some res → va_P D vwCl (wMo K hMo sMo) H → va_D A (wMo K hMo sMo) → va_S A s.heap H locs → lv_has ls 4 [(0, .ref (hMo 99)), (1, .int x1), (3, .int x3)] → W p l e (headSpec wz_X11_next r_X11_next).room s m args below meth c H locs 0 0 Q (F0 m 152 ls [])) → ∀ (x1 : Int32), ∀ (x3 : Int32), ∀ (sMo : MS), ∀ (H : Heap) (locs : List Loc) (ls : Array Slot), f_X11_next_188 F k152 x1 x3 sMo = some res → va_P D vwCl (wMo K hMo sMo) H → va_D A (wMo K hMo sMo) → va_S A s.heap H locs → lv_has ls 4 [(0, .ref (hMo 99)), (1, .int x1), (3, .int x3)] → W p l e (headSpec wz_X11_next r_X11_next).room s m args below meth c H locs 0 0 Q (F0 m 188 ls []) := by
    intro k152 hk152 x1 x3 sMo H locs ls hf hP hD hS hl
    unfold f_X11_next_188 at hf
    obtain ⟨v38, ev38⟩ : ∃ z : Int32, z = x3 + (1 : Int32) := ⟨_, rfl⟩
    have hf := lz_s hf v38 ev38
    refine lv_iinc (v := v38) (lv' := [(3, .int v38), (0, .ref (hMo 99)), (1, .int x1)]) hx hb dX11_next_188 hl (k := 2) rfl (by rw [ev38]; rfl) (by decide) rfl (fun ls hl => ?_)
    obtain ⟨v39, ev39⟩ : ∃ z : Int32, z = x1 + (1 : Int32) := ⟨_, rfl⟩
    have hf := lz_s hf v39 ev39
    refine lv_iinc (v := v39) (lv' := [(1, .int v39), (3, .int v38), (0, .ref (hMo 99))]) hx hb dX11_next_191 hl (k := 2) rfl (by rw [ev39]; rfl) (by decide) rfl (fun ls hl => ?_)
    refine lv_goto (tgt := 152) hx hb dX11_next_194 (by decide) ?_
    exact hk152 v39 v38 sMo H locs ls hf hP hD hS (lv_sub hl [2, 0, 1] rfl)
  have w152 : ∀ (n : Nat), ∀ (x1 : Int32), ∀ (x3 : Int32), ∀ (sMo : MS), ∀ (H : Heap) (locs : List Loc) (ls : Array Slot), f_X11_next_152 F n x1 x3 sMo = some res → va_P D vwCl (wMo K hMo sMo) H → va_D A (wMo K hMo sMo) → va_S A s.heap H locs → lv_has ls 4 [(0, .ref (hMo 99)), (1, .int x1), (3, .int x3)] → W p l e (headSpec wz_X11_next r_X11_next).room s m args below meth c H locs 0 0 Q (F0 m 152 ls []) := by
    intro n
    induction n with
    | zero =>
      intro x1 x3 sMo H locs ls hf
      exact absurd (show none = some res from hf) (fun h => nomatch h)
    | succ n ih =>
      intro x1 x3 sMo H locs ls hf hP hD hS hl
      rw [f_X11_next_152] at hf
      refine lv_aload_n hx hb dX11_next_152 rfl (lv_at hl 0 rfl) ?_
      refine lv_iload_n hx hb dX11_next_153 rfl (lv_at hl 1 rfl) ?_
      obtain ⟨o31, go31, hf⟩ := bd_s hf
      refine ro_Vi (As := [.int x1]) (rest := []) ⟨hx, hb, hml, hown, hts⟩ (c_X11_look l D K F hMo sMo x1 o31 go31) (cwV 1 hts (gcV_X11_look (mB19 _ (List.mem_of_getElem? (i := 1) rfl))) rfl rfl rfl hdV_X11_look ⟨Nat.le_of_ble_eq_true rfl, Nat.le_of_ble_eq_true rfl⟩) hK hP hS hP (va_recv hK hP (ci := 10) (q0 := 0) rfl o_Mo) rfl hl.1 rfl (Nat.le_of_ble_eq_true rfl) dX11_next_154 ⟨Nat.zero_le _, Nat.zero_le _⟩ (fun H locs hP hS => ?_)
      obtain ⟨o32, go32, hf⟩ := bd_s hf
      refine ro_Si (As := [.int o31]) (rest := []) ⟨hx, hb, hml, hown, hts⟩ (c_X11_isDigit l D K F o31 o32 go32) (va_cwS 1 hts (gcS_X11_isDigit (mB19 _ (List.mem_of_getElem? (i := 8) rfl))) rfl rfl rfl hdS_X11_isDigit ⟨Nat.le_of_ble_eq_true rfl, Nat.le_of_ble_eq_true rfl⟩) hK hP hS va_Pnil rfl hl.1 rfl (Nat.le_of_ble_eq_true rfl) dX11_next_157 ⟨Nat.zero_le _, Nat.zero_le _⟩ (fun H locs hP hS => ?_)
      refine lv_if_eq (tgt := 197) hx hb dX11_next_160 (by decide) (fun c33 => ?_) (fun c33 => ?_)
      · have hf := it_t hf c33
        exact w197 x1 x3 sMo H locs ls hf hP hD hS (lv_sub hl [0, 1, 2] rfl)
      · have hf := it_f hf c33
        refine lv_iload_n hx hb dX11_next_163 rfl (lv_at hl 2 rfl) ?_
        refine lv_iconst (v := (3 : Int32)) hx hb dX11_next_164 (by decide) ?_
        refine lv_icmp_ge (tgt := 188) hx hb dX11_next_165 (by decide) (fun c34 => ?_) (fun c34 => ?_)
        · have hf := it_t hf c34
          exact w188 (f_X11_next_152 F n) ih x1 x3 sMo H locs ls hf hP hD hS (lv_sub hl [0, 1, 2] rfl)
        · have hf := it_f hf c34
          refine lv_aload_n hx hb dX11_next_168 rfl (lv_at hl 0 rfl) ?_
          refine lv_bipush (v := (10 : Int32)) hx hb dX11_next_169 (by decide) ?_
          refine lv_aload_n hx hb dX11_next_171 rfl (lv_at hl 0 rfl) ?_
          refine va_get (D := D) (ci := 10) (v := .int (sMo.1 7)) (C := RX11) (T := TX11) (N := 41) hx hb hts iX11 hown hK hP 0 o_Mo rfl 7 (by decide) (htl _ (mB19 _ (List.mem_of_getElem? (i := 0) rfl))) (fun _ h9 => h9) rfl dX11_next_172 ?_
          refine lv_imul hx hb dX11_next_175 ?_
          refine lv_aload_n hx hb dX11_next_176 rfl (lv_at hl 0 rfl) ?_
          refine lv_iload_n hx hb dX11_next_177 rfl (lv_at hl 1 rfl) ?_
          obtain ⟨o35, go35, hf⟩ := bd_s hf
          refine ro_Vi (As := [.int x1]) (rest := [.int ((10 : Int32) * (sMo.1 7)), .ref (hMo 99)]) ⟨hx, hb, hml, hown, hts⟩ (c_X11_look l D K F hMo sMo x1 o35 go35) (cwV 1 hts (gcV_X11_look (mB19 _ (List.mem_of_getElem? (i := 1) rfl))) rfl rfl rfl hdV_X11_look ⟨Nat.le_of_ble_eq_true rfl, Nat.le_of_ble_eq_true rfl⟩) hK hP hS hP (va_recv hK hP (ci := 10) (q0 := 0) rfl o_Mo) rfl hl.1 rfl (Nat.le_of_ble_eq_true rfl) dX11_next_178 ⟨Nat.zero_le _, Nat.zero_le _⟩ (fun H locs hP hS => ?_)
          refine lv_iadd hx hb dX11_next_181 ?_
          refine lv_bipush (v := (48 : Int32)) hx hb dX11_next_182 (by decide) ?_
          refine lv_isub hx hb dX11_next_184 ?_
          refine lv_topi (fun v36 ev36 => ?_)
          have hf := lz_s hf v36 ev36
          refine va_put (D := D) (ci := 10) (v := .int v36) (ty := .int) (C := RX11) (T := TX11) (N := 41) hx hb hts iX11 tyX11 tyX11_ok nmX11 hown hK hP hD hS 0 o_Mo rfl 7 (by decide) (htl _ (mB19 _ (List.mem_of_getElem? (i := 0) rfl))) (fun _ h9 => h9) rfl (by decide +kernel) rfl rfl (Nat.le_of_ble_eq_true rfl) dX11_next_185 (fun H locs hP hD hS => ?_)
          have hP := cvP si_Mo_7 hP
          have hD := cvD si_Mo_7 hD
          obtain ⟨s37, es37⟩ : ∃ z, z = sI sMo 7 v36 := ⟨_, rfl⟩
          have hP : va_P D vwCl (wMo K hMo s37) H := by rw [es37]; exact hP
          have hD : va_D A (wMo K hMo s37) := by rw [es37]; exact hD
          have hf := lz_s hf s37 es37
          exact w188 (f_X11_next_152 F n) ih x1 x3 s37 H locs ls hf hP hD hS (lv_sub hl [0, 1, 2] rfl)
  have w137 : ∀ (y1 : Int32), ∀ (sMo : MS), ∀ (H : Heap) (locs : List Loc) (ls : Array Slot), f_X11_next_137 F y1 sMo = some res → va_P D vwCl (wMo K hMo sMo) H → va_D A (wMo K hMo sMo) → va_S A s.heap H locs → lv_has ls 4 [] → W p l e (headSpec wz_X11_next r_X11_next).room s m args below meth c H locs 0 0 Q (F0 m 137 ls [.int y1, .ref (hMo 99)]) := by
    intro y1 sMo H locs ls hf hP hD hS hl
    unfold f_X11_next_137 at hf
    refine va_put (D := D) (ci := 10) (v := .int y1) (ty := .int) (C := RX11) (T := TX11) (N := 41) hx hb hts iX11 tyX11 tyX11_ok nmX11 hown hK hP hD hS 0 o_Mo rfl 6 (by decide) (htl _ (mB18 _ (List.mem_of_getElem? (i := 2) rfl))) (fun _ h9 => h9) rfl (by decide +kernel) rfl rfl (Nat.le_of_ble_eq_true rfl) dX11_next_137 (fun H locs hP hD hS => ?_)
    have hP := cvP si_Mo_6 hP
    have hD := cvD si_Mo_6 hD
    obtain ⟨s30, es30⟩ : ∃ z, z = sI sMo 6 y1 := ⟨_, rfl⟩
    have hP : va_P D vwCl (wMo K hMo s30) H := by rw [es30]; exact hP
    have hD : va_D A (wMo K hMo s30) := by rw [es30]; exact hD
    have hf := lz_s hf s30 es30
    refine lv_goto (tgt := 247) hx hb dX11_next_140 (by decide) ?_
    have e9 := Option.some.inj hf
    rw [hQ]
    exact W.vret hx hb hr (fun t ht hW => ⟨⟨s30, rfl, e9, ⟨by rw [ht]; exact hP, va_K.moved hW.alike hK, hD⟩⟩, hS.F ht⟩) hS.2.2 dX11_next_247
  have w117 : ∀ (x1 : Int32), ∀ (sMo : MS), ∀ (H : Heap) (locs : List Loc) (ls : Array Slot), f_X11_next_117 F x1 sMo = some res → va_P D vwCl (wMo K hMo sMo) H → va_D A (wMo K hMo sMo) → va_S A s.heap H locs → lv_has ls 4 [(0, .ref (hMo 99)), (1, .int x1)] → W p l e (headSpec wz_X11_next r_X11_next).room s m args below meth c H locs 0 0 Q (F0 m 117 ls []) := by
    intro x1 sMo H locs ls hf hP hD hS hl
    unfold f_X11_next_117 at hf
    refine lv_aload_n hx hb dX11_next_117 rfl (lv_at hl 0 rfl) ?_
    refine lv_iload_n hx hb dX11_next_118 rfl (lv_at hl 1 rfl) ?_
    refine va_put (D := D) (ci := 10) (v := .int x1) (ty := .int) (C := RX11) (T := TX11) (N := 41) hx hb hts iX11 tyX11 tyX11_ok nmX11 hown hK hP hD hS 0 o_Mo rfl 5 (by decide) (htl _ (mB18 _ (List.mem_of_getElem? (i := 1) rfl))) (fun _ h9 => h9) rfl (by decide +kernel) rfl rfl (Nat.le_of_ble_eq_true rfl) dX11_next_119 (fun H locs hP hD hS => ?_)
    have hP := cvP si_Mo_5 hP
    have hD := cvD si_Mo_5 hD
    obtain ⟨s28, es28⟩ : ∃ z, z = sI sMo 5 x1 := ⟨_, rfl⟩
    have hP : va_P D vwCl (wMo K hMo s28) H := by rw [es28]; exact hP
    have hD : va_D A (wMo K hMo s28) := by rw [es28]; exact hD
    have hf := lz_s hf s28 es28
    refine lv_aload_n hx hb dX11_next_122 rfl (lv_at hl 0 rfl) ?_
    refine lv_aload_n hx hb dX11_next_123 rfl (lv_at hl 0 rfl) ?_
    refine va_get (D := D) (ci := 10) (v := .int (s28.1 8)) (C := RX11) (T := TX11) (N := 41) hx hb hts iX11 hown hK hP 0 o_Mo rfl 8 (by decide) (htl _ (mB18 _ (List.mem_of_getElem? (i := 23) rfl))) (fun _ h9 => h9) rfl dX11_next_124 ?_
    refine lv_bipush (v := (8 : Int32)) hx hb dX11_next_127 (by decide) ?_
    refine lv_icmp_le (tgt := 136) hx hb dX11_next_129 (by decide) (fun c29 => ?_) (fun c29 => ?_)
    · have hf := it_t hf c29
      refine lv_iconst (v := (2 : Int32)) hx hb dX11_next_136 (by decide) ?_
      exact w137 (2 : Int32) s28 H locs ls hf hP hD hS (lv_sub hl [] rfl)
    · have hf := it_f hf c29
      refine lv_iconst (v := (1 : Int32)) hx hb dX11_next_132 (by decide) ?_
      refine lv_goto (tgt := 137) hx hb dX11_next_133 (by decide) ?_
      exact w137 (1 : Int32) s28 H locs ls hf hP hD hS (lv_sub hl [] rfl)
  have w101 : ∀ (k67 : Int32 → MS → Option MS), (∀ (x1 : Int32), ∀ (sMo : MS), ∀ (H : Heap) (locs : List Loc) (ls : Array Slot), k67 x1 sMo = some res → va_P D vwCl (wMo K hMo sMo) H → va_D A (wMo K hMo sMo) → va_S A s.heap H locs → lv_has ls 4 [(0, .ref (hMo 99)), (1, .int x1)] → W p l e (headSpec wz_X11_next r_X11_next).room s m args below meth c H locs 0 0 Q (F0 m 67 ls [])) → ∀ (x1 : Int32), ∀ (sMo : MS), ∀ (H : Heap) (locs : List Loc) (ls : Array Slot), f_X11_next_101 F k67 x1 sMo = some res → va_P D vwCl (wMo K hMo sMo) H → va_D A (wMo K hMo sMo) → va_S A s.heap H locs → lv_has ls 4 [(0, .ref (hMo 99)), (1, .int x1)] → W p l e (headSpec wz_X11_next r_X11_next).room s m args below meth c H locs 0 0 Q (F0 m 101 ls []) := by
    intro k67 hk67 x1 sMo H locs ls hf hP hD hS hl
    unfold f_X11_next_101 at hf
    refine lv_aload_n hx hb dX11_next_101 rfl (lv_at hl 0 rfl) ?_
    refine lv_dup hx hb dX11_next_102 rfl ?_
    refine va_get (D := D) (ci := 10) (v := .int (sMo.1 8)) (C := RX11) (T := TX11) (N := 41) hx hb hts iX11 hown hK hP 0 o_Mo rfl 8 (by decide) (htl _ (mB18 _ (List.mem_of_getElem? (i := 23) rfl))) (fun _ h9 => h9) rfl dX11_next_103 ?_
    refine lv_iconst (v := (1 : Int32)) hx hb dX11_next_106 (by decide) ?_
    refine lv_iadd hx hb dX11_next_107 ?_
    refine lv_topi (fun v25 ev25 => ?_)
    have hf := lz_s hf v25 ev25
    refine va_put (D := D) (ci := 10) (v := .int v25) (ty := .int) (C := RX11) (T := TX11) (N := 41) hx hb hts iX11 tyX11 tyX11_ok nmX11 hown hK hP hD hS 0 o_Mo rfl 8 (by decide) (htl _ (mB18 _ (List.mem_of_getElem? (i := 23) rfl))) (fun _ h9 => h9) rfl (by decide +kernel) rfl rfl (Nat.le_of_ble_eq_true rfl) dX11_next_108 (fun H locs hP hD hS => ?_)
    have hP := cvP si_Mo_8 hP
    have hD := cvD si_Mo_8 hD
    obtain ⟨s26, es26⟩ : ∃ z, z = sI sMo 8 v25 := ⟨_, rfl⟩
    have hP : va_P D vwCl (wMo K hMo s26) H := by rw [es26]; exact hP
    have hD : va_D A (wMo K hMo s26) := by rw [es26]; exact hD
    have hf := lz_s hf s26 es26
    obtain ⟨v27, ev27⟩ : ∃ z : Int32, z = x1 + (1 : Int32) := ⟨_, rfl⟩
    have hf := lz_s hf v27 ev27
    refine lv_iinc (v := v27) (lv' := [(1, .int v27), (0, .ref (hMo 99))]) hx hb dX11_next_111 hl (k := 1) rfl (by rw [ev27]; rfl) (by decide) rfl (fun ls hl => ?_)
    refine lv_goto (tgt := 67) hx hb dX11_next_114 (by decide) ?_
    exact hk67 v27 s26 H locs ls hf hP hD hS (lv_sub hl [1, 0] rfl)
  have w67 : ∀ (n : Nat), ∀ (x1 : Int32), ∀ (sMo : MS), ∀ (H : Heap) (locs : List Loc) (ls : Array Slot), f_X11_next_67 F n x1 sMo = some res → va_P D vwCl (wMo K hMo sMo) H → va_D A (wMo K hMo sMo) → va_S A s.heap H locs → lv_has ls 4 [(0, .ref (hMo 99)), (1, .int x1)] → W p l e (headSpec wz_X11_next r_X11_next).room s m args below meth c H locs 0 0 Q (F0 m 67 ls []) := by
    intro n
    induction n with
    | zero =>
      intro x1 sMo H locs ls hf
      exact absurd (show none = some res from hf) (fun h => nomatch h)
    | succ n ih =>
      intro x1 sMo H locs ls hf hP hD hS hl
      rw [f_X11_next_67] at hf
      refine lv_aload_n hx hb dX11_next_67 rfl (lv_at hl 0 rfl) ?_
      refine lv_iload_n hx hb dX11_next_68 rfl (lv_at hl 1 rfl) ?_
      obtain ⟨o18, go18, hf⟩ := bd_s hf
      refine ro_Vi (As := [.int x1]) (rest := []) ⟨hx, hb, hml, hown, hts⟩ (c_X11_look l D K F hMo sMo x1 o18 go18) (cwV 1 hts (gcV_X11_look (mB19 _ (List.mem_of_getElem? (i := 1) rfl))) rfl rfl rfl hdV_X11_look ⟨Nat.le_of_ble_eq_true rfl, Nat.le_of_ble_eq_true rfl⟩) hK hP hS hP (va_recv hK hP (ci := 10) (q0 := 0) rfl o_Mo) rfl hl.1 rfl (Nat.le_of_ble_eq_true rfl) dX11_next_69 ⟨Nat.zero_le _, Nat.zero_le _⟩ (fun H locs hP hS => ?_)
      obtain ⟨o19, go19, hf⟩ := bd_s hf
      refine ro_Si (As := [.int o18]) (rest := []) ⟨hx, hb, hml, hown, hts⟩ (c_X11_isSmall l D K F o18 o19 go19) (va_cwS 1 hts (gcS_X11_isSmall (mB19 _ (List.mem_of_getElem? (i := 5) rfl))) rfl rfl rfl hdS_X11_isSmall ⟨Nat.le_of_ble_eq_true rfl, Nat.le_of_ble_eq_true rfl⟩) hK hP hS va_Pnil rfl hl.1 rfl (Nat.le_of_ble_eq_true rfl) dX11_next_72 ⟨Nat.zero_le _, Nat.zero_le _⟩ (fun H locs hP hS => ?_)
      refine lv_if_eq (tgt := 117) hx hb dX11_next_75 (by decide) (fun c20 => ?_) (fun c20 => ?_)
      · have hf := it_t hf c20
        exact w117 x1 sMo H locs ls hf hP hD hS (lv_sub hl [0, 1] rfl)
      · have hf := it_f hf c20
        refine lv_aload_n hx hb dX11_next_78 rfl (lv_at hl 0 rfl) ?_
        refine va_get (D := D) (ci := 10) (v := .int (sMo.1 8)) (C := RX11) (T := TX11) (N := 41) hx hb hts iX11 hown hK hP 0 o_Mo rfl 8 (by decide) (htl _ (mB18 _ (List.mem_of_getElem? (i := 23) rfl))) (fun _ h9 => h9) rfl dX11_next_79 ?_
        refine lv_bipush (v := (8 : Int32)) hx hb dX11_next_82 (by decide) ?_
        refine lv_icmp_ge (tgt := 101) hx hb dX11_next_84 (by decide) (fun c21 => ?_) (fun c21 => ?_)
        · have hf := it_t hf c21
          exact w101 (f_X11_next_67 F n) ih x1 sMo H locs ls hf hP hD hS (lv_sub hl [0, 1] rfl)
        · have hf := it_f hf c21
          refine lv_aload_n hx hb dX11_next_87 rfl (lv_at hl 0 rfl) ?_
          refine va_get (D := D) (ci := 10) (v := .ref (hMo 12)) (C := RX11) (T := TX11) (N := 41) hx hb hts iX11 hown hK hP 0 o_Mo rfl 12 (by decide) (htl _ (mB6 _ (List.mem_of_getElem? (i := 2) rfl))) (fun _ h9 => h9) rfl dX11_next_88 ?_
          refine lv_aload_n hx hb dX11_next_91 rfl (lv_at hl 0 rfl) ?_
          refine va_get (D := D) (ci := 10) (v := .int (sMo.1 8)) (C := RX11) (T := TX11) (N := 41) hx hb hts iX11 hown hK hP 0 o_Mo rfl 8 (by decide) (htl _ (mB18 _ (List.mem_of_getElem? (i := 23) rfl))) (fun _ h9 => h9) rfl dX11_next_92 ?_
          refine lv_aload_n hx hb dX11_next_95 rfl (lv_at hl 0 rfl) ?_
          refine lv_iload_n hx hb dX11_next_96 rfl (lv_at hl 1 rfl) ?_
          obtain ⟨o22, go22, hf⟩ := bd_s hf
          refine ro_Vi (As := [.int x1]) (rest := [.int (sMo.1 8), .ref (hMo 12)]) ⟨hx, hb, hml, hown, hts⟩ (c_X11_look l D K F hMo sMo x1 o22 go22) (cwV 1 hts (gcV_X11_look (mB19 _ (List.mem_of_getElem? (i := 1) rfl))) rfl rfl rfl hdV_X11_look ⟨Nat.le_of_ble_eq_true rfl, Nat.le_of_ble_eq_true rfl⟩) hK hP hS hP (va_recv hK hP (ci := 10) (q0 := 0) rfl o_Mo) rfl hl.1 rfl (Nat.le_of_ble_eq_true rfl) dX11_next_97 ⟨Nat.zero_le _, Nat.zero_le _⟩ (fun H locs hP hS => ?_)
          obtain ⟨g23, hf⟩ := gd_s hf
          refine va_iast hx hb hK hP hD hS 2 0 (f := sMo.2.2.1 12) a_Mo_12 rfl (vpb_in g23) dX11_next_100 (fun H locs hP hD hS => ?_)
          have hP := cvP sa_Mo_12 hP
          have hD := cvD sa_Mo_12 hD
          obtain ⟨s24, es24⟩ : ∃ z, z = sA sMo 12 ((sMo.1 8).toNatClampNeg) o22 := ⟨_, rfl⟩
          have hP : va_P D vwCl (wMo K hMo s24) H := by rw [es24]; exact hP
          have hD : va_D A (wMo K hMo s24) := by rw [es24]; exact hD
          have hf := lz_s hf s24 es24
          exact w101 (f_X11_next_67 F n) ih x1 s24 H locs ls hf hP hD hS (lv_sub hl [0, 1] rfl)
  have w21 : ∀ (x1 : Int32), ∀ (sMo : MS), ∀ (H : Heap) (locs : List Loc) (ls : Array Slot), f_X11_next_21 F x1 sMo = some res → va_P D vwCl (wMo K hMo sMo) H → va_D A (wMo K hMo sMo) → va_S A s.heap H locs → lv_has ls 4 [(0, .ref (hMo 99)), (1, .int x1)] → W p l e (headSpec wz_X11_next r_X11_next).room s m args below meth c H locs 0 0 Q (F0 m 21 ls []) := by
    intro x1 sMo H locs ls hf hP hD hS hl
    unfold f_X11_next_21 at hf
    refine lv_aload_n hx hb dX11_next_21 rfl (lv_at hl 0 rfl) ?_
    refine lv_iload_n hx hb dX11_next_22 rfl (lv_at hl 1 rfl) ?_
    refine va_put (D := D) (ci := 10) (v := .int x1) (ty := .int) (C := RX11) (T := TX11) (N := 41) hx hb hts iX11 tyX11 tyX11_ok nmX11 hown hK hP hD hS 0 o_Mo rfl 4 (by decide) (htl _ (mB18 _ (List.mem_of_getElem? (i := 3) rfl))) (fun _ h9 => h9) rfl (by decide +kernel) rfl rfl (Nat.le_of_ble_eq_true rfl) dX11_next_23 (fun H locs hP hD hS => ?_)
    have hP := cvP si_Mo_4 hP
    have hD := cvD si_Mo_4 hD
    obtain ⟨s4, es4⟩ : ∃ z, z = sI sMo 4 x1 := ⟨_, rfl⟩
    have hP : va_P D vwCl (wMo K hMo s4) H := by rw [es4]; exact hP
    have hD : va_D A (wMo K hMo s4) := by rw [es4]; exact hD
    have hf := lz_s hf s4 es4
    refine lv_aload_n hx hb dX11_next_26 rfl (lv_at hl 0 rfl) ?_
    refine lv_iload_n hx hb dX11_next_27 rfl (lv_at hl 1 rfl) ?_
    obtain ⟨o5, go5, hf⟩ := bd_s hf
    refine ro_Vi (As := [.int x1]) (rest := []) ⟨hx, hb, hml, hown, hts⟩ (c_X11_look l D K F hMo s4 x1 o5 go5) (cwV 1 hts (gcV_X11_look (mB19 _ (List.mem_of_getElem? (i := 1) rfl))) rfl rfl rfl hdV_X11_look ⟨Nat.le_of_ble_eq_true rfl, Nat.le_of_ble_eq_true rfl⟩) hK hP hS hP (va_recv hK hP (ci := 10) (q0 := 0) rfl o_Mo) rfl hl.1 rfl (Nat.le_of_ble_eq_true rfl) dX11_next_28 ⟨Nat.zero_le _, Nat.zero_le _⟩ (fun H locs hP hS => ?_)
    refine lv_istore_n (lv' := [(2, .int o5), (0, .ref (hMo 99)), (1, .int x1)]) hx hb dX11_next_31 rfl hl (by decide) rfl (fun ls hl => ?_)
    refine lv_aload_n hx hb dX11_next_32 rfl (lv_at hl 1 rfl) ?_
    refine lv_iconst (v := (0 : Int32)) hx hb dX11_next_33 (by decide) ?_
    refine va_put (D := D) (ci := 10) (v := .int (0 : Int32)) (ty := .int) (C := RX11) (T := TX11) (N := 41) hx hb hts iX11 tyX11 tyX11_ok nmX11 hown hK hP hD hS 0 o_Mo rfl 8 (by decide) (htl _ (mB18 _ (List.mem_of_getElem? (i := 23) rfl))) (fun _ h9 => h9) rfl (by decide +kernel) rfl rfl (Nat.le_of_ble_eq_true rfl) dX11_next_34 (fun H locs hP hD hS => ?_)
    have hP := cvP si_Mo_8 hP
    have hD := cvD si_Mo_8 hD
    obtain ⟨s6, es6⟩ : ∃ z, z = sI s4 8 (0 : Int32) := ⟨_, rfl⟩
    have hP : va_P D vwCl (wMo K hMo s6) H := by rw [es6]; exact hP
    have hD : va_D A (wMo K hMo s6) := by rw [es6]; exact hD
    have hf := lz_s hf s6 es6
    refine lv_aload_n hx hb dX11_next_37 rfl (lv_at hl 1 rfl) ?_
    refine lv_iconst (v := (0 : Int32)) hx hb dX11_next_38 (by decide) ?_
    refine va_put (D := D) (ci := 10) (v := .int (0 : Int32)) (ty := .int) (C := RX11) (T := TX11) (N := 41) hx hb hts iX11 tyX11 tyX11_ok nmX11 hown hK hP hD hS 0 o_Mo rfl 7 (by decide) (htl _ (mB19 _ (List.mem_of_getElem? (i := 0) rfl))) (fun _ h9 => h9) rfl (by decide +kernel) rfl rfl (Nat.le_of_ble_eq_true rfl) dX11_next_39 (fun H locs hP hD hS => ?_)
    have hP := cvP si_Mo_7 hP
    have hD := cvD si_Mo_7 hD
    obtain ⟨s7, es7⟩ : ∃ z, z = sI s6 7 (0 : Int32) := ⟨_, rfl⟩
    have hP : va_P D vwCl (wMo K hMo s7) H := by rw [es7]; exact hP
    have hD : va_D A (wMo K hMo s7) := by rw [es7]; exact hD
    have hf := lz_s hf s7 es7
    refine lv_iload_n hx hb dX11_next_42 rfl (lv_at hl 0 rfl) ?_
    refine lv_iconst (v := (-1 : Int32)) hx hb dX11_next_43 (by decide) ?_
    refine lv_icmp_ne (tgt := 60) hx hb dX11_next_44 (by decide) (fun c8 => ?_) (fun c8 => ?_)
    · have hf := it_f hf c8
      refine lv_iload_n hx hb dX11_next_60 rfl (lv_at hl 0 rfl) ?_
      obtain ⟨o9, go9, hf⟩ := bd_s hf
      refine ro_Si (As := [.int o5]) (rest := []) ⟨hx, hb, hml, hown, hts⟩ (c_X11_isSmall l D K F o5 o9 go9) (va_cwS 1 hts (gcS_X11_isSmall (mB19 _ (List.mem_of_getElem? (i := 5) rfl))) rfl rfl rfl hdS_X11_isSmall ⟨Nat.le_of_ble_eq_true rfl, Nat.le_of_ble_eq_true rfl⟩) hK hP hS va_Pnil rfl hl.1 rfl (Nat.le_of_ble_eq_true rfl) dX11_next_61 ⟨Nat.zero_le _, Nat.zero_le _⟩ (fun H locs hP hS => ?_)
      refine lv_if_eq (tgt := 143) hx hb dX11_next_64 (by decide) (fun c10 => ?_) (fun c10 => ?_)
      · have hf := it_t hf c10
        refine lv_iload_n hx hb dX11_next_143 rfl (lv_at hl 0 rfl) ?_
        obtain ⟨o11, go11, hf⟩ := bd_s hf
        refine ro_Si (As := [.int o5]) (rest := []) ⟨hx, hb, hml, hown, hts⟩ (c_X11_isDigit l D K F o5 o11 go11) (va_cwS 1 hts (gcS_X11_isDigit (mB19 _ (List.mem_of_getElem? (i := 8) rfl))) rfl rfl rfl hdS_X11_isDigit ⟨Nat.le_of_ble_eq_true rfl, Nat.le_of_ble_eq_true rfl⟩) hK hP hS va_Pnil rfl hl.1 rfl (Nat.le_of_ble_eq_true rfl) dX11_next_144 ⟨Nat.zero_le _, Nat.zero_le _⟩ (fun H locs hP hS => ?_)
        refine lv_if_eq (tgt := 219) hx hb dX11_next_147 (by decide) (fun c12 => ?_) (fun c12 => ?_)
        · have hf := it_t hf c12
          refine lv_aload_n hx hb dX11_next_219 rfl (lv_at hl 1 rfl) ?_
          refine lv_iload_n hx hb dX11_next_220 rfl (lv_at hl 2 rfl) ?_
          refine lv_iconst (v := (1 : Int32)) hx hb dX11_next_221 (by decide) ?_
          refine lv_iadd hx hb dX11_next_222 ?_
          refine va_put (D := D) (ci := 10) (v := .int (x1 + (1 : Int32))) (ty := .int) (C := RX11) (T := TX11) (N := 41) hx hb hts iX11 tyX11 tyX11_ok nmX11 hown hK hP hD hS 0 o_Mo rfl 5 (by decide) (htl _ (mB18 _ (List.mem_of_getElem? (i := 1) rfl))) (fun _ h9 => h9) rfl (by decide +kernel) rfl rfl (Nat.le_of_ble_eq_true rfl) dX11_next_223 (fun H locs hP hD hS => ?_)
          have hP := cvP si_Mo_5 hP
          have hD := cvD si_Mo_5 hD
          obtain ⟨s13, es13⟩ : ∃ z, z = sI s7 5 (x1 + (1 : Int32)) := ⟨_, rfl⟩
          have hP : va_P D vwCl (wMo K hMo s13) H := by rw [es13]; exact hP
          have hD : va_D A (wMo K hMo s13) := by rw [es13]; exact hD
          have hf := lz_s hf s13 es13
          refine lv_aload_n hx hb dX11_next_226 rfl (lv_at hl 1 rfl) ?_
          refine lv_iload_n hx hb dX11_next_227 rfl (lv_at hl 0 rfl) ?_
          refine lv_bipush (v := (59 : Int32)) hx hb dX11_next_228 (by decide) ?_
          refine lv_icmp_eq (tgt := 239) hx hb dX11_next_230 (by decide) (fun c14 => ?_) (fun c14 => ?_)
          · have hf := it_t hf c14
            exact w239 o5 s13 H locs ls hf hP hD hS (lv_sub hl [0] rfl)
          · have hf := it_f hf c14
            refine lv_iload_n hx hb dX11_next_233 rfl (lv_at hl 0 rfl) ?_
            refine lv_bipush (v := (44 : Int32)) hx hb dX11_next_234 (by decide) ?_
            refine lv_icmp_ne (tgt := 243) hx hb dX11_next_236 (by decide) (fun c15 => ?_) (fun c15 => ?_)
            · have hf := it_f hf c15
              refine lv_iconst (v := (1 : Int32)) hx hb dX11_next_243 (by decide) ?_
              exact w244 (1 : Int32) s13 H locs ls hf hP hD hS (lv_sub hl [] rfl)
            · have hf := it_t hf c15
              exact w239 o5 s13 H locs ls hf hP hD hS (lv_sub hl [0] rfl)
        · have hf := it_f hf c12
          refine lv_iconst (v := (0 : Int32)) hx hb dX11_next_150 (by decide) ?_
          refine lv_istore_n (lv' := [(3, .int (0 : Int32)), (2, .int o5), (0, .ref (hMo 99)), (1, .int x1)]) hx hb dX11_next_151 rfl hl (by decide) rfl (fun ls hl => ?_)
          exact w152 F x1 (0 : Int32) s7 H locs ls hf hP hD hS (lv_sub hl [2, 3, 0] rfl)
      · have hf := it_f hf c10
        exact w67 F x1 s7 H locs ls hf hP hD hS (lv_sub hl [1, 2] rfl)
    · have hf := it_t hf c8
      refine lv_aload_n hx hb dX11_next_47 rfl (lv_at hl 1 rfl) ?_
      refine lv_iconst (v := (0 : Int32)) hx hb dX11_next_48 (by decide) ?_
      refine va_put (D := D) (ci := 10) (v := .int (0 : Int32)) (ty := .int) (C := RX11) (T := TX11) (N := 41) hx hb hts iX11 tyX11 tyX11_ok nmX11 hown hK hP hD hS 0 o_Mo rfl 6 (by decide) (htl _ (mB18 _ (List.mem_of_getElem? (i := 2) rfl))) (fun _ h9 => h9) rfl (by decide +kernel) rfl rfl (Nat.le_of_ble_eq_true rfl) dX11_next_49 (fun H locs hP hD hS => ?_)
      have hP := cvP si_Mo_6 hP
      have hD := cvD si_Mo_6 hD
      obtain ⟨s16, es16⟩ : ∃ z, z = sI s7 6 (0 : Int32) := ⟨_, rfl⟩
      have hP : va_P D vwCl (wMo K hMo s16) H := by rw [es16]; exact hP
      have hD : va_D A (wMo K hMo s16) := by rw [es16]; exact hD
      have hf := lz_s hf s16 es16
      refine lv_aload_n hx hb dX11_next_52 rfl (lv_at hl 1 rfl) ?_
      refine lv_iload_n hx hb dX11_next_53 rfl (lv_at hl 2 rfl) ?_
      refine va_put (D := D) (ci := 10) (v := .int x1) (ty := .int) (C := RX11) (T := TX11) (N := 41) hx hb hts iX11 tyX11 tyX11_ok nmX11 hown hK hP hD hS 0 o_Mo rfl 5 (by decide) (htl _ (mB18 _ (List.mem_of_getElem? (i := 1) rfl))) (fun _ h9 => h9) rfl (by decide +kernel) rfl rfl (Nat.le_of_ble_eq_true rfl) dX11_next_54 (fun H locs hP hD hS => ?_)
      have hP := cvP si_Mo_5 hP
      have hD := cvD si_Mo_5 hD
      obtain ⟨s17, es17⟩ : ∃ z, z = sI s16 5 x1 := ⟨_, rfl⟩
      have hP : va_P D vwCl (wMo K hMo s17) H := by rw [es17]; exact hP
      have hD : va_D A (wMo K hMo s17) := by rw [es17]; exact hD
      have hf := lz_s hf s17 es17
      refine lv_goto (tgt := 247) hx hb dX11_next_57 (by decide) ?_
      have e9 := Option.some.inj hf
      rw [hQ]
      exact W.vret hx hb hr (fun t ht hW => ⟨⟨s17, rfl, e9, ⟨by rw [ht]; exact hP, va_K.moved hW.alike hK, hD⟩⟩, hS.F ht⟩) hS.2.2 dX11_next_247
  have w5 : ∀ (n : Nat), ∀ (x1 : Int32), ∀ (sMo : MS), ∀ (H : Heap) (locs : List Loc) (ls : Array Slot), f_X11_next_5 F n x1 sMo = some res → va_P D vwCl (wMo K hMo sMo) H → va_D A (wMo K hMo sMo) → va_S A s.heap H locs → lv_has ls 4 [(0, .ref (hMo 99)), (1, .int x1)] → W p l e (headSpec wz_X11_next r_X11_next).room s m args below meth c H locs 0 0 Q (F0 m 5 ls []) := by
    intro n
    induction n with
    | zero =>
      intro x1 sMo H locs ls hf
      exact absurd (show none = some res from hf) (fun h => nomatch h)
    | succ n ih =>
      intro x1 sMo H locs ls hf hP hD hS hl
      rw [f_X11_next_5] at hf
      refine lv_aload_n hx hb dX11_next_5 rfl (lv_at hl 0 rfl) ?_
      refine lv_iload_n hx hb dX11_next_6 rfl (lv_at hl 1 rfl) ?_
      obtain ⟨o1, go1, hf⟩ := bd_s hf
      refine ro_Vi (As := [.int x1]) (rest := []) ⟨hx, hb, hml, hown, hts⟩ (c_X11_look l D K F hMo sMo x1 o1 go1) (cwV 1 hts (gcV_X11_look (mB19 _ (List.mem_of_getElem? (i := 1) rfl))) rfl rfl rfl hdV_X11_look ⟨Nat.le_of_ble_eq_true rfl, Nat.le_of_ble_eq_true rfl⟩) hK hP hS hP (va_recv hK hP (ci := 10) (q0 := 0) rfl o_Mo) rfl hl.1 rfl (Nat.le_of_ble_eq_true rfl) dX11_next_7 ⟨Nat.zero_le _, Nat.zero_le _⟩ (fun H locs hP hS => ?_)
      refine lv_bipush (v := (32 : Int32)) hx hb dX11_next_10 (by decide) ?_
      refine lv_icmp_ne (tgt := 21) hx hb dX11_next_12 (by decide) (fun c2 => ?_) (fun c2 => ?_)
      · have hf := it_f hf c2
        exact w21 x1 sMo H locs ls hf hP hD hS (lv_sub hl [0, 1] rfl)
      · have hf := it_t hf c2
        obtain ⟨v3, ev3⟩ : ∃ z : Int32, z = x1 + (1 : Int32) := ⟨_, rfl⟩
        have hf := lz_s hf v3 ev3
        refine lv_iinc (v := v3) (lv' := [(1, .int v3), (0, .ref (hMo 99))]) hx hb dX11_next_15 hl (k := 1) rfl (by rw [ev3]; rfl) (by decide) rfl (fun ls hl => ?_)
        refine lv_goto (tgt := 5) hx hb dX11_next_18 (by decide) ?_
        exact ih v3 sMo H locs ls hf hP hD hS (lv_sub hl [1, 0] rfl)
  have hen : entryFrame m args 4 = entryFrame m (([.ref (hMo 99)] : List Value).toArray) 4 := by rw [hargs]
  have hl := lv_entry ([.ref (hMo 99)]) (n := 4) (Nat.le_of_ble_eq_true rfl)
  rw [hen, lg_entry_eq]
  generalize (lg_sl ([.ref (hMo 99)]) ++ List.replicate (4 - (lg_sl ([.ref (hMo 99)])).length) Slot.unset).toArray = ls at hl ⊢
  have hl : lv_has ls 4 [(0, .ref (hMo 99))] := hl
  unfold f_X11_next at hf
  obtain ⟨H, hHe⟩ : ∃ z, z = s.heap := ⟨_, rfl⟩
  obtain ⟨locs, hLe⟩ : ∃ z : List Loc, z = [] := ⟨_, rfl⟩
  rw [← hLe]
  have hS : va_S A s.heap H locs := by rw [hHe, hLe]; exact hS
  have hP : va_P D vwCl (wMo K hMo sMo) H := by rw [hHe]; exact hP
  have hgo : W p l e (headSpec wz_X11_next r_X11_next).room s m args below meth c H locs 0 0 Q (F0 m 0 ls []) := by
    refine lv_aload_n hx hb dX11_next_0 rfl (lv_at hl 0 rfl) ?_
    refine va_get (D := D) (ci := 10) (v := .int (sMo.1 5)) (C := RX11) (T := TX11) (N := 41) hx hb hts iX11 hown hK hP 0 o_Mo rfl 5 (by decide) (htl _ (mB18 _ (List.mem_of_getElem? (i := 1) rfl))) (fun _ h9 => h9) rfl dX11_next_1 ?_
    refine lv_istore_n (lv' := [(1, .int (sMo.1 5)), (0, .ref (hMo 99))]) hx hb dX11_next_4 rfl hl (by decide) rfl (fun ls hl => ?_)
    exact w5 F (sMo.1 5) sMo H locs ls hf hP hD hS (lv_sub hl [1, 0] rfl)
  rw [hHe] at hgo
  exact hgo

def wz_X11_wrong : List Cond := .code yX11_wrong cX11_wrong 3 none :: wsL_law
abbrev r_X11_wrong : Room := { frames := 0, cells := 0, slots := 0, locals := 0 }
set_option maxHeartbeats 4000000 in
set_option maxRecDepth 100000 in
theorem c_X11_wrong (l : Launch) (D : va_G) (K : Nat → ClassId) (F : Nat) (hMo : Nat → Nat) (sz : Nat) (sMo : MS) (p1 : Int32) (p2 : Int32) (res : MS) (hf : f_X11_wrong F p1 p2 sMo = some res) : Met l yX11_wrong wz_X11_wrong r_X11_wrong (va_Pc [.ref (hMo 99), .int p1, .int p2] (PW D K (wMo K hMo sMo) sz)) (va_Qv (fun u => u = res) (fun u t => BW D K (va_A (wMo K hMo sMo) sz) (wMo K hMo u) t) (va_A (wMo K hMo sMo) sz)) 0 0 (va_A (wMo K hMo sMo) sz) := by
  refine Met.ofW (cc := cX11_wrong) (maxL := 3) (ret := none) (by decide) rfl ?_
  intro p e s m args below meth c s₁ B hml hv
  obtain ⟨hargs, hsz, hP, hK, hD0⟩ := hv
  have hx := B.exec
  have hb := B.bytes
  have hr := B.returns
  have hts := atoms_spec (ws := wz_X11_wrong) B.pre
  have htl : ∀ w ∈ wsL_law, w.before args s = true := fun w h => hts w (List.mem_cons_of_mem _ h)
  have hown : s.vm.findClass RX11 = some m.cls := findClass_of_methodNamed B.named
  have hlocks := B.notSynchronized
  subst hsz
  have hD := hD0.self (sz := s.heap.size)
  generalize hAe : va_A (wMo K hMo sMo) s.heap.size = A at hD ⊢
  have hA : ∀ q : Nat, s.heap.size ≤ q → A q := fun q h => by rw [← hAe]; exact Or.inr h
  have hS : va_S A s.heap s.heap [] := va_S.rf
  have iX11 : ∀ w ∈ wsX110, w ∈ wz_X11_wrong := fun w h => List.mem_cons_of_mem _ (inlX11 w h)
  suffices hgo : ∀ Q : State → Prop, Q = MQ below (va_Qv (fun u => u = res) (fun u t => BW D K A (wMo K hMo u) t) A) args s 0 0 A → W p l e (headSpec wz_X11_wrong r_X11_wrong).room s m args below meth c s.heap [] 0 0 Q (entryFrame m args 3) from hgo _ rfl
  intro Q hQ
  have hen : entryFrame m args 3 = entryFrame m (([.ref (hMo 99), .int p1, .int p2] : List Value).toArray) 3 := by rw [hargs]
  have hl := lv_entry ([.ref (hMo 99), .int p1, .int p2]) (n := 3) (Nat.le_of_ble_eq_true rfl)
  rw [hen, lg_entry_eq]
  generalize (lg_sl ([.ref (hMo 99), .int p1, .int p2]) ++ List.replicate (3 - (lg_sl ([.ref (hMo 99), .int p1, .int p2])).length) Slot.unset).toArray = ls at hl ⊢
  have hl : lv_has ls 3 [(0, .ref (hMo 99)), (1, .int p1), (2, .int p2)] := hl
  unfold f_X11_wrong at hf
  obtain ⟨H, hHe⟩ : ∃ z, z = s.heap := ⟨_, rfl⟩
  obtain ⟨locs, hLe⟩ : ∃ z : List Loc, z = [] := ⟨_, rfl⟩
  rw [← hLe]
  have hS : va_S A s.heap H locs := by rw [hHe, hLe]; exact hS
  have hP : va_P D vwCl (wMo K hMo sMo) H := by rw [hHe]; exact hP
  have hgo : W p l e (headSpec wz_X11_wrong r_X11_wrong).room s m args below meth c H locs 0 0 Q (F0 m 0 ls []) := by
    refine lv_aload_n hx hb dX11_wrong_0 rfl (lv_at hl 0 rfl) ?_
    refine va_get (D := D) (ci := 10) (v := .int (sMo.1 13)) (C := RX11) (T := TX11) (N := 41) hx hb hts iX11 hown hK hP 0 o_Mo rfl 13 (by decide) (htl _ (mB17 _ (List.mem_of_getElem? (i := 23) rfl))) (fun _ h9 => h9) rfl dX11_wrong_1 ?_
    refine lv_if_eq (tgt := 8) hx hb dX11_wrong_4 (by decide) (fun c1 => ?_) (fun c1 => ?_)
    · have hf := it_t hf c1
      refine lv_aload_n hx hb dX11_wrong_8 rfl (lv_at hl 0 rfl) ?_
      refine lv_iconst (v := (1 : Int32)) hx hb dX11_wrong_9 (by decide) ?_
      refine va_put (D := D) (ci := 10) (v := .int (1 : Int32)) (ty := .boolean) (C := RX11) (T := TX11) (N := 41) hx hb hts iX11 tyX11 tyX11_ok nmX11 hown hK hP hD hS 0 o_Mo rfl 13 (by decide) (htl _ (mB17 _ (List.mem_of_getElem? (i := 23) rfl))) (fun _ h9 => h9) rfl (by decide +kernel) rfl rfl (Nat.le_of_ble_eq_true rfl) dX11_wrong_10 (fun H locs hP hD hS => ?_)
      have hP := cvP si_Mo_13 hP
      have hD := cvD si_Mo_13 hD
      obtain ⟨s2, es2⟩ : ∃ z, z = sI sMo 13 (1 : Int32) := ⟨_, rfl⟩
      have hP : va_P D vwCl (wMo K hMo s2) H := by rw [es2]; exact hP
      have hD : va_D A (wMo K hMo s2) := by rw [es2]; exact hD
      have hf := lz_s hf s2 es2
      refine lv_aload_n hx hb dX11_wrong_13 rfl (lv_at hl 0 rfl) ?_
      refine lv_iload_n hx hb dX11_wrong_14 rfl (lv_at hl 1 rfl) ?_
      refine va_put (D := D) (ci := 10) (v := .int p1) (ty := .int) (C := RX11) (T := TX11) (N := 41) hx hb hts iX11 tyX11 tyX11_ok nmX11 hown hK hP hD hS 0 o_Mo rfl 9 (by decide) (htl _ (mB17 _ (List.mem_of_getElem? (i := 22) rfl))) (fun _ h9 => h9) rfl (by decide +kernel) rfl rfl (Nat.le_of_ble_eq_true rfl) dX11_wrong_15 (fun H locs hP hD hS => ?_)
      have hP := cvP si_Mo_9 hP
      have hD := cvD si_Mo_9 hD
      obtain ⟨s3, es3⟩ : ∃ z, z = sI s2 9 p1 := ⟨_, rfl⟩
      have hP : va_P D vwCl (wMo K hMo s3) H := by rw [es3]; exact hP
      have hD : va_D A (wMo K hMo s3) := by rw [es3]; exact hD
      have hf := lz_s hf s3 es3
      refine lv_aload_n hx hb dX11_wrong_18 rfl (lv_at hl 0 rfl) ?_
      refine lv_iload_n hx hb dX11_wrong_19 rfl (lv_at hl 2 rfl) ?_
      refine va_put (D := D) (ci := 10) (v := .int p2) (ty := .int) (C := RX11) (T := TX11) (N := 41) hx hb hts iX11 tyX11 tyX11_ok nmX11 hown hK hP hD hS 0 o_Mo rfl 10 (by decide) (htl _ (mB6 _ (List.mem_of_getElem? (i := 1) rfl))) (fun _ h9 => h9) rfl (by decide +kernel) rfl rfl (Nat.le_of_ble_eq_true rfl) dX11_wrong_20 (fun H locs hP hD hS => ?_)
      have hP := cvP si_Mo_10 hP
      have hD := cvD si_Mo_10 hD
      obtain ⟨s4, es4⟩ : ∃ z, z = sI s3 10 p2 := ⟨_, rfl⟩
      have hP : va_P D vwCl (wMo K hMo s4) H := by rw [es4]; exact hP
      have hD : va_D A (wMo K hMo s4) := by rw [es4]; exact hD
      have hf := lz_s hf s4 es4
      have e9 := Option.some.inj hf
      rw [hQ]
      exact W.vret hx hb hr (fun t ht hW => ⟨⟨s4, rfl, e9, ⟨by rw [ht]; exact hP, va_K.moved hW.alike hK, hD⟩⟩, hS.F ht⟩) hS.2.2 dX11_wrong_23
    · have hf := it_f hf c1
      have e9 := Option.some.inj hf
      rw [hQ]
      exact W.vret hx hb hr (fun t ht hW => ⟨⟨sMo, rfl, e9, ⟨by rw [ht]; exact hP, va_K.moved hW.alike hK, hD⟩⟩, hS.F ht⟩) hS.2.2 dX11_wrong_7
  rw [hHe] at hgo
  exact hgo

def wz_X11_isWord : List Cond := .code yX11_isWord cX11_isWord 4 (some .boolean) :: wsL_law
abbrev r_X11_isWord : Room := { frames := 4, cells := 0, slots := 0, locals := 85 }
set_option maxHeartbeats 4000000 in
set_option maxRecDepth 100000 in
theorem c_X11_isWord (l : Launch) (D : va_G) (K : Nat → ClassId) (F : Nat) (adK adV : Nat → Nat) (tF : Nat) (hMo : Nat → Nat) (sMo : MS) (p1 : Nat) (res : Int32) (hf : f_X11_isWord F sMo p1 = some res) : Met l yX11_isWord wz_X11_isWord r_X11_isWord (va_Pc [.ref (hMo 99), .ref (adK p1)] (PRz D K adK adV tF (wMo K hMo sMo))) (va_Qi (fun r (_ : Unit) => r = res) BN nOne) 0 0 nOne := by
  refine Met.ofW (cc := cX11_isWord) (maxL := 4) (ret := (some .boolean)) (by decide) rfl ?_
  intro p e s m args below meth c s₁ B hml hv
  obtain ⟨hargs, ⟨hP, hK⟩, hZ⟩ := hv
  have hx := B.exec
  have hb := B.bytes
  have hr := B.returns
  have hts := atoms_spec (ws := wz_X11_isWord) B.pre
  have htl : ∀ w ∈ wsL_law, w.before args s = true := fun w h => hts w (List.mem_cons_of_mem _ h)
  have hown : s.vm.findClass RX11 = some m.cls := findClass_of_methodNamed B.named
  have hlocks := B.notSynchronized
  have hS : va_S nOne s.heap s.heap [] := va_S.rf
  have iX11 : ∀ w ∈ wsX110, w ∈ wz_X11_isWord := fun w h => List.mem_cons_of_mem _ (inlX11 w h)
  suffices hgo : ∀ Q : State → Prop, Q = MQ below (va_Qi (fun r (_ : Unit) => r = res) BN nOne) args s 0 0 nOne → W p l e (headSpec wz_X11_isWord r_X11_isWord).room s m args below meth c s.heap [] 0 0 Q (entryFrame m args 4) from hgo _ rfl
  intro Q hQ
  have w63 : ∀ (k32 : Int32 → Int32 → Option Int32), (∀ (x2 : Int32), ∀ (x3 : Int32), ∀ (H : Heap) (locs : List Loc) (ls : Array Slot), k32 x2 x3 = some res → va_P D vwCl (wMo K hMo sMo) H → va_S nOne s.heap H locs → lv_has ls 4 [(0, .ref (hMo 99)), (1, .ref (adK p1)), (2, .int x2), (3, .int x3)] → W p l e (headSpec wz_X11_isWord r_X11_isWord).room s m args below meth c H locs 0 0 Q (F0 m 32 ls [])) → ∀ (x3 : Int32), ∀ (y0 : Int32), ∀ (H : Heap) (locs : List Loc) (ls : Array Slot), f_X11_isWord_63 F sMo p1 k32 x3 y0 = some res → va_P D vwCl (wMo K hMo sMo) H → va_S nOne s.heap H locs → lv_has ls 4 [(0, .ref (hMo 99)), (1, .ref (adK p1)), (3, .int x3)] → W p l e (headSpec wz_X11_isWord r_X11_isWord).room s m args below meth c H locs 0 0 Q (F0 m 63 ls [.int y0]) := by
    intro k32 hk32 x3 y0 H locs ls hf hP hS hl
    unfold f_X11_isWord_63 at hf
    refine lv_istore_n (lv' := [(2, .int y0), (0, .ref (hMo 99)), (1, .ref (adK p1)), (3, .int x3)]) hx hb dX11_isWord_63 rfl hl (by decide) rfl (fun ls hl => ?_)
    obtain ⟨v15, ev15⟩ : ∃ z : Int32, z = x3 + (1 : Int32) := ⟨_, rfl⟩
    have hf := lz_s hf v15 ev15
    refine lv_iinc (v := v15) (lv' := [(3, .int v15), (2, .int y0), (0, .ref (hMo 99)), (1, .ref (adK p1))]) hx hb dX11_isWord_64 hl (k := 3) rfl (by rw [ev15]; rfl) (by decide) rfl (fun ls hl => ?_)
    refine lv_goto (tgt := 32) hx hb dX11_isWord_67 (by decide) ?_
    exact hk32 y0 v15 H locs ls hf hP hS (lv_sub hl [2, 3, 1, 0] rfl)
  have w62 : ∀ (k32 : Int32 → Int32 → Option Int32), (∀ (x2 : Int32), ∀ (x3 : Int32), ∀ (H : Heap) (locs : List Loc) (ls : Array Slot), k32 x2 x3 = some res → va_P D vwCl (wMo K hMo sMo) H → va_S nOne s.heap H locs → lv_has ls 4 [(0, .ref (hMo 99)), (1, .ref (adK p1)), (2, .int x2), (3, .int x3)] → W p l e (headSpec wz_X11_isWord r_X11_isWord).room s m args below meth c H locs 0 0 Q (F0 m 32 ls [])) → ∀ (x3 : Int32), ∀ (H : Heap) (locs : List Loc) (ls : Array Slot), f_X11_isWord_62 F sMo p1 k32 x3 = some res → va_P D vwCl (wMo K hMo sMo) H → va_S nOne s.heap H locs → lv_has ls 4 [(0, .ref (hMo 99)), (1, .ref (adK p1)), (3, .int x3)] → W p l e (headSpec wz_X11_isWord r_X11_isWord).room s m args below meth c H locs 0 0 Q (F0 m 62 ls []) := by
    intro k32 hk32 x3 H locs ls hf hP hS hl
    unfold f_X11_isWord_62 at hf
    refine lv_iconst (v := (0 : Int32)) hx hb dX11_isWord_62 (by decide) ?_
    exact w63 k32 hk32 x3 (0 : Int32) H locs ls hf hP hS (lv_sub hl [0, 1, 2] rfl)
  have w32 : ∀ (n : Nat), ∀ (x2 : Int32), ∀ (x3 : Int32), ∀ (H : Heap) (locs : List Loc) (ls : Array Slot), f_X11_isWord_32 F sMo p1 n x2 x3 = some res → va_P D vwCl (wMo K hMo sMo) H → va_S nOne s.heap H locs → lv_has ls 4 [(0, .ref (hMo 99)), (1, .ref (adK p1)), (2, .int x2), (3, .int x3)] → W p l e (headSpec wz_X11_isWord r_X11_isWord).room s m args below meth c H locs 0 0 Q (F0 m 32 ls []) := by
    intro n
    induction n with
    | zero =>
      intro x2 x3 H locs ls hf
      exact absurd (show none = some res from hf) (fun h => nomatch h)
    | succ n ih =>
      intro x2 x3 H locs ls hf hP hS hl
      rw [f_X11_isWord_32] at hf
      refine lv_iload_n hx hb dX11_isWord_32 rfl (lv_at hl 3 rfl) ?_
      refine lv_aload_n hx hb dX11_isWord_33 rfl (lv_at hl 0 rfl) ?_
      refine va_get (D := D) (ci := 10) (v := .int (sMo.1 8)) (C := RX11) (T := TX11) (N := 41) hx hb hts iX11 hown hK hP 0 o_Mo rfl 8 (by decide) (htl _ (mB18 _ (List.mem_of_getElem? (i := 23) rfl))) (fun _ h9 => h9) rfl dX11_isWord_34 ?_
      refine lv_icmp_ge (tgt := 70) hx hb dX11_isWord_37 (by decide) (fun c6 => ?_) (fun c6 => ?_)
      · have hf := it_t hf c6
        refine lv_iload_n hx hb dX11_isWord_70 rfl (lv_at hl 2 rfl) ?_
        obtain ⟨g7, hf⟩ := gd_s hf
        have e9 := Option.some.inj hf
        rw [hQ]
        exact W.zret (v := x2) hx hb hr (bob_s g7) (fun t ht hW => ⟨⟨x2, (), rfl, e9, trivial⟩, hS.F ht⟩) hS.2.2 dX11_isWord_71
      · have hf := it_f hf c6
        refine lv_iload_n hx hb dX11_isWord_40 rfl (lv_at hl 2 rfl) ?_
        refine lv_if_eq (tgt := 62) hx hb dX11_isWord_41 (by decide) (fun c8 => ?_) (fun c8 => ?_)
        · have hf := it_t hf c8
          exact w62 (f_X11_isWord_32 F sMo p1 n) ih x3 H locs ls hf hP hS (lv_sub hl [0, 1, 3] rfl)
        · have hf := it_f hf c8
          refine lv_aload_n hx hb dX11_isWord_44 rfl (lv_at hl 0 rfl) ?_
          refine va_get (D := D) (ci := 10) (v := .ref (hMo 12)) (C := RX11) (T := TX11) (N := 41) hx hb hts iX11 hown hK hP 0 o_Mo rfl 12 (by decide) (htl _ (mB6 _ (List.mem_of_getElem? (i := 2) rfl))) (fun _ h9 => h9) rfl dX11_isWord_45 ?_
          refine lv_iload_n hx hb dX11_isWord_48 rfl (lv_at hl 3 rfl) ?_
          obtain ⟨g9, hf⟩ := gd_s hf
          refine va_iald hx hb hK hP 2 0 (f := sMo.2.2.1 12) a_Mo_12 rfl (vpb_in g9) dX11_isWord_49 ?_
          refine lv_topi (fun v10 ev10 => ?_)
          have hf := lz_s hf v10 ev10
          refine lv_aload_n hx hb dX11_isWord_50 rfl (lv_at hl 1 rfl) ?_
          refine lv_iload_n hx hb dX11_isWord_51 rfl (lv_at hl 3 rfl) ?_
          obtain ⟨g11, hf⟩ := gd_s hf
          obtain ⟨g12, hf⟩ := gd_s hf
          refine roZ_Vi (As := [.int x3]) (rest := [.int v10]) ⟨hx, hb, hml, hown, hts⟩ (c_J0_charAt_5068e l adK adV tF p1 x3 (of_decide_eq_true g11) g12) (cwV 1 hts (gcV_J0_charAt_5068e (mB19 _ (List.mem_of_getElem? (i := 20) rfl))) rfl rfl rfl hdV_J0_charAt_5068e ⟨Nat.le_of_ble_eq_true rfl, Nat.le_of_ble_eq_true rfl⟩) hZ hS (vk_recv hZ.1 (of_decide_eq_true g11) hS) rfl hl.1 rfl (Nat.le_of_ble_eq_true rfl) dX11_isWord_52 ⟨Nat.zero_le _, Nat.zero_le _⟩ (fun H1 locs hk hS => ?_)
          have hP : va_P D vwCl (wMo K hMo sMo) H1 := hP.kept (fun k q h => hk q.1 (hP k q h).lt)
          generalize H1 = H at hP hS ⊢
          refine lv_topi (fun v13 ev13 => ?_)
          have hf := lz_s hf v13 ev13
          refine lv_icmp_ne (tgt := 62) hx hb dX11_isWord_55 (by decide) (fun c14 => ?_) (fun c14 => ?_)
          · have hf := it_f hf c14
            exact w62 (f_X11_isWord_32 F sMo p1 n) ih x3 H locs ls hf hP hS (lv_sub hl [0, 1, 3] rfl)
          · have hf := it_t hf c14
            refine lv_iconst (v := (1 : Int32)) hx hb dX11_isWord_58 (by decide) ?_
            refine lv_goto (tgt := 63) hx hb dX11_isWord_59 (by decide) ?_
            exact w63 (f_X11_isWord_32 F sMo p1 n) ih x3 (1 : Int32) H locs ls hf hP hS (lv_sub hl [0, 1, 3] rfl)
  have hen : entryFrame m args 4 = entryFrame m (([.ref (hMo 99), .ref (adK p1)] : List Value).toArray) 4 := by rw [hargs]
  have hl := lv_entry ([.ref (hMo 99), .ref (adK p1)]) (n := 4) (Nat.le_of_ble_eq_true rfl)
  rw [hen, lg_entry_eq]
  generalize (lg_sl ([.ref (hMo 99), .ref (adK p1)]) ++ List.replicate (4 - (lg_sl ([.ref (hMo 99), .ref (adK p1)])).length) Slot.unset).toArray = ls at hl ⊢
  have hl : lv_has ls 4 [(0, .ref (hMo 99)), (1, .ref (adK p1))] := hl
  unfold f_X11_isWord at hf
  obtain ⟨H, hHe⟩ : ∃ z, z = s.heap := ⟨_, rfl⟩
  obtain ⟨locs, hLe⟩ : ∃ z : List Loc, z = [] := ⟨_, rfl⟩
  rw [← hLe]
  have hS : va_S nOne s.heap H locs := by rw [hHe, hLe]; exact hS
  have hP : va_P D vwCl (wMo K hMo sMo) H := by rw [hHe]; exact hP
  have hgo : W p l e (headSpec wz_X11_isWord r_X11_isWord).room s m args below meth c H locs 0 0 Q (F0 m 0 ls []) := by
    refine lv_aload_n hx hb dX11_isWord_0 rfl (lv_at hl 0 rfl) ?_
    refine va_get (D := D) (ci := 10) (v := .int (sMo.1 13)) (C := RX11) (T := TX11) (N := 41) hx hb hts iX11 hown hK hP 0 o_Mo rfl 13 (by decide) (htl _ (mB17 _ (List.mem_of_getElem? (i := 23) rfl))) (fun _ h9 => h9) rfl dX11_isWord_1 ?_
    refine lv_if_ne (tgt := 26) hx hb dX11_isWord_4 (by decide) (fun c1 => ?_) (fun c1 => ?_)
    · have hf := it_f hf c1
      refine lv_iconst (v := (0 : Int32)) hx hb dX11_isWord_26 (by decide) ?_
      have e9 := Option.some.inj hf
      rw [hQ]
      exact W.zret (v := (0 : Int32)) hx hb hr rfl (fun t ht hW => ⟨⟨(0 : Int32), (), rfl, e9, trivial⟩, hS.F ht⟩) hS.2.2 dX11_isWord_27
    · have hf := it_t hf c1
      refine lv_aload_n hx hb dX11_isWord_7 rfl (lv_at hl 0 rfl) ?_
      refine va_get (D := D) (ci := 10) (v := .int (sMo.1 6)) (C := RX11) (T := TX11) (N := 41) hx hb hts iX11 hown hK hP 0 o_Mo rfl 6 (by decide) (htl _ (mB18 _ (List.mem_of_getElem? (i := 2) rfl))) (fun _ h9 => h9) rfl dX11_isWord_8 ?_
      refine lv_iconst (v := (2 : Int32)) hx hb dX11_isWord_11 (by decide) ?_
      refine lv_icmp_ne (tgt := 26) hx hb dX11_isWord_12 (by decide) (fun c2 => ?_) (fun c2 => ?_)
      · have hf := it_f hf c2
        refine lv_iconst (v := (0 : Int32)) hx hb dX11_isWord_26 (by decide) ?_
        have e9 := Option.some.inj hf
        rw [hQ]
        exact W.zret (v := (0 : Int32)) hx hb hr rfl (fun t ht hW => ⟨⟨(0 : Int32), (), rfl, e9, trivial⟩, hS.F ht⟩) hS.2.2 dX11_isWord_27
      · have hf := it_t hf c2
        refine lv_aload_n hx hb dX11_isWord_15 rfl (lv_at hl 0 rfl) ?_
        refine va_get (D := D) (ci := 10) (v := .int (sMo.1 8)) (C := RX11) (T := TX11) (N := 41) hx hb hts iX11 hown hK hP 0 o_Mo rfl 8 (by decide) (htl _ (mB18 _ (List.mem_of_getElem? (i := 23) rfl))) (fun _ h9 => h9) rfl dX11_isWord_16 ?_
        refine lv_aload_n hx hb dX11_isWord_19 rfl (lv_at hl 1 rfl) ?_
        obtain ⟨g3, hf⟩ := gd_s hf
        refine roZ_Vi (As := []) (rest := [.int (sMo.1 8)]) ⟨hx, hb, hml, hown, hts⟩ (c_J0_length_8abf5 l adK adV tF p1 (of_decide_eq_true g3)) (cwV 0 hts (gcV_J0_length_8abf5 (mB19 _ (List.mem_of_getElem? (i := 19) rfl))) rfl rfl rfl hdV_J0_length_8abf5 ⟨Nat.le_of_ble_eq_true rfl, Nat.le_of_ble_eq_true rfl⟩) hZ hS (vk_recv hZ.1 (of_decide_eq_true g3) hS) rfl hl.1 rfl (Nat.le_of_ble_eq_true rfl) dX11_isWord_20 ⟨Nat.zero_le _, Nat.zero_le _⟩ (fun H1 locs hk hS => ?_)
        have hP : va_P D vwCl (wMo K hMo sMo) H1 := hP.kept (fun k q h => hk q.1 (hP k q h).lt)
        generalize H1 = H at hP hS ⊢
        refine lv_topi (fun v4 ev4 => ?_)
        have hf := lz_s hf v4 ev4
        refine lv_icmp_eq (tgt := 28) hx hb dX11_isWord_23 (by decide) (fun c5 => ?_) (fun c5 => ?_)
        · have hf := it_t hf c5
          refine lv_iconst (v := (1 : Int32)) hx hb dX11_isWord_28 (by decide) ?_
          refine lv_istore_n (lv' := [(2, .int (1 : Int32)), (0, .ref (hMo 99)), (1, .ref (adK p1))]) hx hb dX11_isWord_29 rfl hl (by decide) rfl (fun ls hl => ?_)
          refine lv_iconst (v := (0 : Int32)) hx hb dX11_isWord_30 (by decide) ?_
          refine lv_istore_n (lv' := [(3, .int (0 : Int32)), (2, .int (1 : Int32)), (0, .ref (hMo 99)), (1, .ref (adK p1))]) hx hb dX11_isWord_31 rfl hl (by decide) rfl (fun ls hl => ?_)
          exact w32 F (1 : Int32) (0 : Int32) H locs ls hf hP hS (lv_sub hl [2, 3, 1, 0] rfl)
        · have hf := it_f hf c5
          refine lv_iconst (v := (0 : Int32)) hx hb dX11_isWord_26 (by decide) ?_
          have e9 := Option.some.inj hf
          rw [hQ]
          exact W.zret (v := (0 : Int32)) hx hb hr rfl (fun t ht hW => ⟨⟨(0 : Int32), (), rfl, e9, trivial⟩, hS.F ht⟩) hS.2.2 dX11_isWord_27
  rw [hHe] at hgo
  exact hgo

theorem gcV_X11_isWord {T0 : Cond} {own : String} {i : Nat} (h : Cond.methodLink own i yX11_isWord ∈ wsL_law) : GoodIn (T0 :: wsL_law) (wsV own i RX11 yX11_isWord wz_X11_isWord) := gV h (mB19 _ (List.mem_of_getElem? (i := 16) rfl)) (mB19 _ (List.mem_of_getElem? (i := 17) rfl)) (mB1 _ (List.mem_of_getElem? (i := 5) rfl)) (mB19 _ (List.mem_of_getElem? (i := 18) rfl))
theorem hdV_X11_isWord : yX11_isWord.cls = RX11 ∧ yX11_isWord.cls ≠ "java/lang/invoke/MethodHandle" ∧ yX11_isWord.cls ≠ "java/lang/invoke/VarHandle" ∧ (parseMethodDescriptor yX11_isWord.desc).map (fun d => d.parameters.length) = some 1 := by decide +kernel
theorem gcV_X11_next {T0 : Cond} {own : String} {i : Nat} (h : Cond.methodLink own i yX11_next ∈ wsL_law) : GoodIn (T0 :: wsL_law) (wsV own i RX11 yX11_next wz_X11_next) := gV h (mB18 _ (List.mem_of_getElem? (i := 20) rfl)) (mB18 _ (List.mem_of_getElem? (i := 21) rfl)) (mB1 _ (List.mem_of_getElem? (i := 5) rfl)) (mB18 _ (List.mem_of_getElem? (i := 22) rfl))
theorem hdV_X11_next : yX11_next.cls = RX11 ∧ yX11_next.cls ≠ "java/lang/invoke/MethodHandle" ∧ yX11_next.cls ≠ "java/lang/invoke/VarHandle" ∧ (parseMethodDescriptor yX11_next.desc).map (fun d => d.parameters.length) = some 0 := by decide +kernel
def wz_X11_takesWord : List Cond := .code yX11_takesWord cX11_takesWord 2 (some .boolean) :: wsL_law
abbrev r_X11_takesWord : Room := { frames := 5, cells := 0, slots := 0, locals := 108 }
set_option maxHeartbeats 4000000 in
set_option maxRecDepth 100000 in
theorem c_X11_takesWord (l : Launch) (D : va_G) (K : Nat → ClassId) (F : Nat) (adK adV : Nat → Nat) (tF : Nat) (hMo : Nat → Nat) (sz : Nat) (sMo : MS) (p1 : Nat) (res : Int32 × MS) (hf : f_X11_takesWord F p1 sMo = some res) : Met l yX11_takesWord wz_X11_takesWord r_X11_takesWord (va_Pc [.ref (hMo 99), .ref (adK p1)] (PWz D K adK adV tF (wMo K hMo sMo) sz)) (va_Qi (fun r u => r = res.1 ∧ u = res.2) (fun u t => BW D K (va_A (wMo K hMo sMo) sz) (wMo K hMo u) t) (va_A (wMo K hMo sMo) sz)) 0 0 (va_A (wMo K hMo sMo) sz) := by
  refine Met.ofW (cc := cX11_takesWord) (maxL := 2) (ret := (some .boolean)) (by decide) rfl ?_
  intro p e s m args below meth c s₁ B hml hv
  obtain ⟨hargs, ⟨hsz, hP, hK, hD0⟩, hZ⟩ := hv
  have hx := B.exec
  have hb := B.bytes
  have hr := B.returns
  have hts := atoms_spec (ws := wz_X11_takesWord) B.pre
  have htl : ∀ w ∈ wsL_law, w.before args s = true := fun w h => hts w (List.mem_cons_of_mem _ h)
  have hown : s.vm.findClass RX11 = some m.cls := findClass_of_methodNamed B.named
  have hlocks := B.notSynchronized
  subst hsz
  have hD := hD0.self (sz := s.heap.size)
  generalize hAe : va_A (wMo K hMo sMo) s.heap.size = A at hD hZ ⊢
  have hA : ∀ q : Nat, s.heap.size ≤ q → A q := fun q h => by rw [← hAe]; exact Or.inr h
  have hS : va_S A s.heap s.heap [] := va_S.rf
  suffices hgo : ∀ Q : State → Prop, Q = MQ below (va_Qi (fun r u => r = res.1 ∧ u = res.2) (fun u t => BW D K A (wMo K hMo u) t) A) args s 0 0 A → W p l e (headSpec wz_X11_takesWord r_X11_takesWord).room s m args below meth c s.heap [] 0 0 Q (entryFrame m args 2) from hgo _ rfl
  intro Q hQ
  have hen : entryFrame m args 2 = entryFrame m (([.ref (hMo 99), .ref (adK p1)] : List Value).toArray) 2 := by rw [hargs]
  have hl := lv_entry ([.ref (hMo 99), .ref (adK p1)]) (n := 2) (Nat.le_of_ble_eq_true rfl)
  rw [hen, lg_entry_eq]
  generalize (lg_sl ([.ref (hMo 99), .ref (adK p1)]) ++ List.replicate (2 - (lg_sl ([.ref (hMo 99), .ref (adK p1)])).length) Slot.unset).toArray = ls at hl ⊢
  have hl : lv_has ls 2 [(0, .ref (hMo 99)), (1, .ref (adK p1))] := hl
  unfold f_X11_takesWord at hf
  obtain ⟨H, hHe⟩ : ∃ z, z = s.heap := ⟨_, rfl⟩
  obtain ⟨locs, hLe⟩ : ∃ z : List Loc, z = [] := ⟨_, rfl⟩
  rw [← hLe]
  have hS : va_S A s.heap H locs := by rw [hHe, hLe]; exact hS
  have hP : va_P D vwCl (wMo K hMo sMo) H := by rw [hHe]; exact hP
  have hgo : W p l e (headSpec wz_X11_takesWord r_X11_takesWord).room s m args below meth c H locs 0 0 Q (F0 m 0 ls []) := by
    refine lv_aload_n hx hb dX11_takesWord_0 rfl (lv_at hl 0 rfl) ?_
    refine lv_aload_n hx hb dX11_takesWord_1 rfl (lv_at hl 1 rfl) ?_
    obtain ⟨o1, go1, hf⟩ := bd_s hf
    refine ro_Viz (As := [.ref (adK p1)]) (rest := []) ⟨hx, hb, hml, hown, hts⟩ (c_X11_isWord l D K F adK adV tF hMo sMo p1 o1 go1) (cwV 1 hts (gcV_X11_isWord (mB19 _ (List.mem_of_getElem? (i := 15) rfl))) rfl rfl rfl hdV_X11_isWord ⟨Nat.le_of_ble_eq_true rfl, Nat.le_of_ble_eq_true rfl⟩) hK hP hS hZ hP (va_recv hK hP (ci := 10) (q0 := 0) rfl o_Mo) rfl hl.1 rfl (Nat.le_of_ble_eq_true rfl) dX11_takesWord_2 ⟨Nat.zero_le _, Nat.zero_le _⟩ (fun H locs hP hS => ?_)
    refine lv_if_ne (tgt := 10) hx hb dX11_takesWord_5 (by decide) (fun c2 => ?_) (fun c2 => ?_)
    · have hf := it_f hf c2
      refine lv_aload_n hx hb dX11_takesWord_10 rfl (lv_at hl 0 rfl) ?_
      obtain ⟨o3, go3, hf⟩ := bd_s hf
      refine rs_Vv (As := []) (rest := []) ⟨hx, hb, hml, hown, hts⟩ (c_X11_next l D K F hMo H.size sMo o3 go3) (cwV 0 hts (gcV_X11_next (mB18 _ (List.mem_of_getElem? (i := 19) rfl))) rfl rfl rfl hdV_X11_next ⟨Nat.le_of_ble_eq_true rfl, Nat.le_of_ble_eq_true rfl⟩) hK hP hD hS hA (va_recv hK hP (ci := 10) (q0 := 0) rfl o_Mo) rfl hl.1 rfl (Nat.le_of_ble_eq_true rfl) dX11_takesWord_11 ⟨Nat.zero_le _, Nat.zero_le _⟩ (fun H locs hP hD hS => ?_)
      have hP : va_P D vwCl (wMo K hMo o3) H := hP
      have hD : va_D A (wMo K hMo o3) := hD
      refine lv_iconst (v := (1 : Int32)) hx hb dX11_takesWord_14 (by decide) ?_
      have e9 := Option.some.inj hf
      rw [hQ]
      exact W.zret (v := (1 : Int32)) hx hb hr rfl (fun t ht hW => ⟨⟨(1 : Int32), o3, rfl, ⟨pr1 e9, pr2 e9⟩, ⟨by rw [ht]; exact hP, va_K.moved hW.alike hK, hD⟩⟩, hS.F ht⟩) hS.2.2 dX11_takesWord_15
    · have hf := it_t hf c2
      refine lv_iconst (v := (0 : Int32)) hx hb dX11_takesWord_8 (by decide) ?_
      have e9 := Option.some.inj hf
      rw [hQ]
      exact W.zret (v := (0 : Int32)) hx hb hr rfl (fun t ht hW => ⟨⟨(0 : Int32), sMo, rfl, ⟨pr1 e9, pr2 e9⟩, ⟨by rw [ht]; exact hP, va_K.moved hW.alike hK, hD⟩⟩, hS.F ht⟩) hS.2.2 dX11_takesWord_9
  rw [hHe] at hgo
  exact hgo

theorem gcV_X11_takesWord {T0 : Cond} {own : String} {i : Nat} (h : Cond.methodLink own i yX11_takesWord ∈ wsL_law) : GoodIn (T0 :: wsL_law) (wsV own i RX11 yX11_takesWord wz_X11_takesWord) := gV h (mB20 _ (List.mem_of_getElem? (i := 14) rfl)) (mB20 _ (List.mem_of_getElem? (i := 15) rfl)) (mB1 _ (List.mem_of_getElem? (i := 5) rfl)) (mB20 _ (List.mem_of_getElem? (i := 16) rfl))
theorem hdV_X11_takesWord : yX11_takesWord.cls = RX11 ∧ yX11_takesWord.cls ≠ "java/lang/invoke/MethodHandle" ∧ yX11_takesWord.cls ≠ "java/lang/invoke/VarHandle" ∧ (parseMethodDescriptor yX11_takesWord.desc).map (fun d => d.parameters.length) = some 1 := by decide +kernel
theorem gcV_X11_wrong {T0 : Cond} {own : String} {i : Nat} (h : Cond.methodLink own i yX11_wrong ∈ wsL_law) : GoodIn (T0 :: wsL_law) (wsV own i RX11 yX11_wrong wz_X11_wrong) := gV h (mB20 _ (List.mem_of_getElem? (i := 2) rfl)) (mB20 _ (List.mem_of_getElem? (i := 3) rfl)) (mB1 _ (List.mem_of_getElem? (i := 5) rfl)) (mB20 _ (List.mem_of_getElem? (i := 4) rfl))
theorem hdV_X11_wrong : yX11_wrong.cls = RX11 ∧ yX11_wrong.cls ≠ "java/lang/invoke/MethodHandle" ∧ yX11_wrong.cls ≠ "java/lang/invoke/VarHandle" ∧ (parseMethodDescriptor yX11_wrong.desc).map (fun d => d.parameters.length) = some 2 := by decide +kernel
def wz_X11_must : List Cond := .code yX11_must cX11_must 2 none :: wsL_law
abbrev r_X11_must : Room := { frames := 6, cells := 0, slots := 0, locals := 129 }
set_option maxHeartbeats 4000000 in
set_option maxRecDepth 100000 in
theorem c_X11_must (l : Launch) (D : va_G) (K : Nat → ClassId) (F : Nat) (adK adV : Nat → Nat) (tF : Nat) (hMo : Nat → Nat) (sz : Nat) (sMo : MS) (p1 : Nat) (res : MS) (hf : f_X11_must F p1 sMo = some res) : Met l yX11_must wz_X11_must r_X11_must (va_Pc [.ref (hMo 99), .ref (adK p1)] (PWz D K adK adV tF (wMo K hMo sMo) sz)) (va_Qv (fun u => u = res) (fun u t => BW D K (va_A (wMo K hMo sMo) sz) (wMo K hMo u) t) (va_A (wMo K hMo sMo) sz)) 0 0 (va_A (wMo K hMo sMo) sz) := by
  refine Met.ofW (cc := cX11_must) (maxL := 2) (ret := none) (by decide) rfl ?_
  intro p e s m args below meth c s₁ B hml hv
  obtain ⟨hargs, ⟨hsz, hP, hK, hD0⟩, hZ⟩ := hv
  have hx := B.exec
  have hb := B.bytes
  have hr := B.returns
  have hts := atoms_spec (ws := wz_X11_must) B.pre
  have htl : ∀ w ∈ wsL_law, w.before args s = true := fun w h => hts w (List.mem_cons_of_mem _ h)
  have hown : s.vm.findClass RX11 = some m.cls := findClass_of_methodNamed B.named
  have hlocks := B.notSynchronized
  subst hsz
  have hD := hD0.self (sz := s.heap.size)
  generalize hAe : va_A (wMo K hMo sMo) s.heap.size = A at hD hZ ⊢
  have hA : ∀ q : Nat, s.heap.size ≤ q → A q := fun q h => by rw [← hAe]; exact Or.inr h
  have hS : va_S A s.heap s.heap [] := va_S.rf
  have iX11 : ∀ w ∈ wsX110, w ∈ wz_X11_must := fun w h => List.mem_cons_of_mem _ (inlX11 w h)
  suffices hgo : ∀ Q : State → Prop, Q = MQ below (va_Qv (fun u => u = res) (fun u t => BW D K A (wMo K hMo u) t) A) args s 0 0 A → W p l e (headSpec wz_X11_must r_X11_must).room s m args below meth c s.heap [] 0 0 Q (entryFrame m args 2) from hgo _ rfl
  intro Q hQ
  have hen : entryFrame m args 2 = entryFrame m (([.ref (hMo 99), .ref (adK p1)] : List Value).toArray) 2 := by rw [hargs]
  have hl := lv_entry ([.ref (hMo 99), .ref (adK p1)]) (n := 2) (Nat.le_of_ble_eq_true rfl)
  rw [hen, lg_entry_eq]
  generalize (lg_sl ([.ref (hMo 99), .ref (adK p1)]) ++ List.replicate (2 - (lg_sl ([.ref (hMo 99), .ref (adK p1)])).length) Slot.unset).toArray = ls at hl ⊢
  have hl : lv_has ls 2 [(0, .ref (hMo 99)), (1, .ref (adK p1))] := hl
  unfold f_X11_must at hf
  obtain ⟨H, hHe⟩ : ∃ z, z = s.heap := ⟨_, rfl⟩
  obtain ⟨locs, hLe⟩ : ∃ z : List Loc, z = [] := ⟨_, rfl⟩
  rw [← hLe]
  have hS : va_S A s.heap H locs := by rw [hHe, hLe]; exact hS
  have hP : va_P D vwCl (wMo K hMo sMo) H := by rw [hHe]; exact hP
  have hgo : W p l e (headSpec wz_X11_must r_X11_must).room s m args below meth c H locs 0 0 Q (F0 m 0 ls []) := by
    refine lv_aload_n hx hb dX11_must_0 rfl (lv_at hl 0 rfl) ?_
    refine va_get (D := D) (ci := 10) (v := .int (sMo.1 13)) (C := RX11) (T := TX11) (N := 41) hx hb hts iX11 hown hK hP 0 o_Mo rfl 13 (by decide) (htl _ (mB17 _ (List.mem_of_getElem? (i := 23) rfl))) (fun _ h9 => h9) rfl dX11_must_1 ?_
    refine lv_if_ne (tgt := 24) hx hb dX11_must_4 (by decide) (fun c1 => ?_) (fun c1 => ?_)
    · have hf := it_f hf c1
      have e9 := Option.some.inj hf
      rw [hQ]
      exact W.vret hx hb hr (fun t ht hW => ⟨⟨sMo, rfl, e9, ⟨by rw [ht]; exact hP, va_K.moved hW.alike hK, hD⟩⟩, hS.F ht⟩) hS.2.2 dX11_must_24
    · have hf := it_t hf c1
      refine lv_aload_n hx hb dX11_must_7 rfl (lv_at hl 0 rfl) ?_
      refine lv_aload_n hx hb dX11_must_8 rfl (lv_at hl 1 rfl) ?_
      obtain ⟨o2, go2, hf⟩ := bd_s hf
      refine rs_Viz (As := [.ref (adK p1)]) (rest := []) ⟨hx, hb, hml, hown, hts⟩ (c_X11_takesWord l D K F adK adV tF hMo H.size sMo p1 o2 go2) (cwV 1 hts (gcV_X11_takesWord (mB20 _ (List.mem_of_getElem? (i := 13) rfl))) rfl rfl rfl hdV_X11_takesWord ⟨Nat.le_of_ble_eq_true rfl, Nat.le_of_ble_eq_true rfl⟩) hK hP hD hS hA hZ (va_recv hK hP (ci := 10) (q0 := 0) rfl o_Mo) rfl hl.1 rfl (Nat.le_of_ble_eq_true rfl) dX11_must_9 ⟨Nat.zero_le _, Nat.zero_le _⟩ (fun H locs hP hD hS => ?_)
      have hP : va_P D vwCl (wMo K hMo o2.2) H := hP
      have hD : va_D A (wMo K hMo o2.2) := hD
      refine lv_if_ne (tgt := 24) hx hb dX11_must_12 (by decide) (fun c3 => ?_) (fun c3 => ?_)
      · have hf := it_f hf c3
        have e9 := Option.some.inj hf
        rw [hQ]
        exact W.vret hx hb hr (fun t ht hW => ⟨⟨o2.2, rfl, e9, ⟨by rw [ht]; exact hP, va_K.moved hW.alike hK, hD⟩⟩, hS.F ht⟩) hS.2.2 dX11_must_24
      · have hf := it_t hf c3
        refine lv_aload_n hx hb dX11_must_15 rfl (lv_at hl 0 rfl) ?_
        refine lv_iconst (v := (1 : Int32)) hx hb dX11_must_16 (by decide) ?_
        refine lv_aload_n hx hb dX11_must_17 rfl (lv_at hl 0 rfl) ?_
        refine va_get (D := D) (ci := 10) (v := .int (o2.2.1 4)) (C := RX11) (T := TX11) (N := 41) hx hb hts iX11 hown hK hP 0 o_Mo rfl 4 (by decide) (htl _ (mB18 _ (List.mem_of_getElem? (i := 3) rfl))) (fun _ h9 => h9) rfl dX11_must_18 ?_
        obtain ⟨o4, go4, hf⟩ := bd_s hf
        refine rs_Vv (As := [.int (1 : Int32), .int (o2.2.1 4)]) (rest := []) ⟨hx, hb, hml, hown, hts⟩ (c_X11_wrong l D K F hMo H.size o2.2 (1 : Int32) (o2.2.1 4) o4 go4) (cwV 2 hts (gcV_X11_wrong (mB20 _ (List.mem_of_getElem? (i := 1) rfl))) rfl rfl rfl hdV_X11_wrong ⟨Nat.le_of_ble_eq_true rfl, Nat.le_of_ble_eq_true rfl⟩) hK hP hD hS hA (va_recv hK hP (ci := 10) (q0 := 0) rfl o_Mo) rfl hl.1 rfl (Nat.le_of_ble_eq_true rfl) dX11_must_21 ⟨Nat.zero_le _, Nat.zero_le _⟩ (fun H locs hP hD hS => ?_)
        have hP : va_P D vwCl (wMo K hMo o4) H := hP
        have hD : va_D A (wMo K hMo o4) := hD
        have e9 := Option.some.inj hf
        rw [hQ]
        exact W.vret hx hb hr (fun t ht hW => ⟨⟨o4, rfl, e9, ⟨by rw [ht]; exact hP, va_K.moved hW.alike hK, hD⟩⟩, hS.F ht⟩) hS.2.2 dX11_must_24
  rw [hHe] at hgo
  exact hgo

def wz_X11_mustName : List Cond := .code yX11_mustName cX11_mustName 2 none :: wsL_law
abbrev r_X11_mustName : Room := { frames := 5, cells := 0, slots := 0, locals := 108 }
set_option maxHeartbeats 4000000 in
set_option maxRecDepth 100000 in
theorem c_X11_mustName (l : Launch) (D : va_G) (K : Nat → ClassId) (F : Nat) (adK adV : Nat → Nat) (tF : Nat) (hMo : Nat → Nat) (sz : Nat) (sMo : MS) (res : MS) (hf : f_X11_mustName F sMo = some res) : Met l yX11_mustName wz_X11_mustName r_X11_mustName (va_Pc [.ref (hMo 99)] (PWz D K adK adV tF (wMo K hMo sMo) sz)) (va_Qv (fun u => u = res) (fun u t => BW D K (va_A (wMo K hMo sMo) sz) (wMo K hMo u) t) (va_A (wMo K hMo sMo) sz)) 0 0 (va_A (wMo K hMo sMo) sz) := by
  refine Met.ofW (cc := cX11_mustName) (maxL := 2) (ret := none) (by decide) rfl ?_
  intro p e s m args below meth c s₁ B hml hv
  obtain ⟨hargs, ⟨hsz, hP, hK, hD0⟩, hZ⟩ := hv
  have hx := B.exec
  have hb := B.bytes
  have hr := B.returns
  have hts := atoms_spec (ws := wz_X11_mustName) B.pre
  have htl : ∀ w ∈ wsL_law, w.before args s = true := fun w h => hts w (List.mem_cons_of_mem _ h)
  have hown : s.vm.findClass RX11 = some m.cls := findClass_of_methodNamed B.named
  have hlocks := B.notSynchronized
  subst hsz
  have hD := hD0.self (sz := s.heap.size)
  generalize hAe : va_A (wMo K hMo sMo) s.heap.size = A at hD hZ ⊢
  have hA : ∀ q : Nat, s.heap.size ≤ q → A q := fun q h => by rw [← hAe]; exact Or.inr h
  have hS : va_S A s.heap s.heap [] := va_S.rf
  have iX11 : ∀ w ∈ wsX110, w ∈ wz_X11_mustName := fun w h => List.mem_cons_of_mem _ (inlX11 w h)
  suffices hgo : ∀ Q : State → Prop, Q = MQ below (va_Qv (fun u => u = res) (fun u t => BW D K A (wMo K hMo u) t) A) args s 0 0 A → W p l e (headSpec wz_X11_mustName r_X11_mustName).room s m args below meth c s.heap [] 0 0 Q (entryFrame m args 2) from hgo _ rfl
  intro Q hQ
  have w81 : ∀ (sMo : MS), ∀ (H : Heap) (locs : List Loc) (ls : Array Slot), f_X11_mustName_81 F sMo = some res → va_P D vwCl (wMo K hMo sMo) H → va_D A (wMo K hMo sMo) → va_S A s.heap H locs → lv_has ls 2 [(0, .ref (hMo 99))] → W p l e (headSpec wz_X11_mustName r_X11_mustName).room s m args below meth c H locs 0 0 Q (F0 m 81 ls []) := by
    intro sMo H locs ls hf hP hD hS hl
    unfold f_X11_mustName_81 at hf
    refine lv_aload_n hx hb dX11_mustName_81 rfl (lv_at hl 0 rfl) ?_
    refine lv_iconst (v := (1 : Int32)) hx hb dX11_mustName_82 (by decide) ?_
    refine lv_aload_n hx hb dX11_mustName_83 rfl (lv_at hl 0 rfl) ?_
    refine va_get (D := D) (ci := 10) (v := .int (sMo.1 4)) (C := RX11) (T := TX11) (N := 41) hx hb hts iX11 hown hK hP 0 o_Mo rfl 4 (by decide) (htl _ (mB18 _ (List.mem_of_getElem? (i := 3) rfl))) (fun _ h9 => h9) rfl dX11_mustName_84 ?_
    obtain ⟨o17, go17, hf⟩ := bd_s hf
    refine rs_Vv (As := [.int (1 : Int32), .int (sMo.1 4)]) (rest := []) ⟨hx, hb, hml, hown, hts⟩ (c_X11_wrong l D K F hMo H.size sMo (1 : Int32) (sMo.1 4) o17 go17) (cwV 2 hts (gcV_X11_wrong (mB20 _ (List.mem_of_getElem? (i := 1) rfl))) rfl rfl rfl hdV_X11_wrong ⟨Nat.le_of_ble_eq_true rfl, Nat.le_of_ble_eq_true rfl⟩) hK hP hD hS hA (va_recv hK hP (ci := 10) (q0 := 0) rfl o_Mo) rfl hl.1 rfl (Nat.le_of_ble_eq_true rfl) dX11_mustName_87 ⟨Nat.zero_le _, Nat.zero_le _⟩ (fun H locs hP hD hS => ?_)
    have hP : va_P D vwCl (wMo K hMo o17) H := hP
    have hD : va_D A (wMo K hMo o17) := hD
    have e9 := Option.some.inj hf
    rw [hQ]
    exact W.vret hx hb hr (fun t ht hW => ⟨⟨o17, rfl, e9, ⟨by rw [ht]; exact hP, va_K.moved hW.alike hK, hD⟩⟩, hS.F ht⟩) hS.2.2 dX11_mustName_90
  have w68 : ∀ (y0 : Int32), ∀ (sMo : MS), ∀ (H : Heap) (locs : List Loc) (ls : Array Slot), f_X11_mustName_68 F y0 sMo = some res → va_P D vwCl (wMo K hMo sMo) H → va_D A (wMo K hMo sMo) → va_S A s.heap H locs → lv_has ls 2 [(0, .ref (hMo 99))] → W p l e (headSpec wz_X11_mustName r_X11_mustName).room s m args below meth c H locs 0 0 Q (F0 m 68 ls [.int y0]) := by
    intro y0 sMo H locs ls hf hP hD hS hl
    unfold f_X11_mustName_68 at hf
    refine lv_istore_n (lv' := [(1, .int y0), (0, .ref (hMo 99))]) hx hb dX11_mustName_68 rfl hl (by decide) rfl (fun ls hl => ?_)
    refine lv_aload_n hx hb dX11_mustName_69 rfl (lv_at hl 1 rfl) ?_
    refine va_get (D := D) (ci := 10) (v := .int (sMo.1 6)) (C := RX11) (T := TX11) (N := 41) hx hb hts iX11 hown hK hP 0 o_Mo rfl 6 (by decide) (htl _ (mB18 _ (List.mem_of_getElem? (i := 2) rfl))) (fun _ h9 => h9) rfl dX11_mustName_70 ?_
    refine lv_iconst (v := (2 : Int32)) hx hb dX11_mustName_73 (by decide) ?_
    refine lv_icmp_ne (tgt := 81) hx hb dX11_mustName_74 (by decide) (fun c15 => ?_) (fun c15 => ?_)
    · have hf := it_f hf c15
      exact w81 sMo H locs ls hf hP hD hS (lv_sub hl [1] rfl)
    · have hf := it_t hf c15
      refine lv_iload_n hx hb dX11_mustName_77 rfl (lv_at hl 0 rfl) ?_
      refine lv_if_eq (tgt := 90) hx hb dX11_mustName_78 (by decide) (fun c16 => ?_) (fun c16 => ?_)
      · have hf := it_t hf c16
        have e9 := Option.some.inj hf
        rw [hQ]
        exact W.vret hx hb hr (fun t ht hW => ⟨⟨sMo, rfl, e9, ⟨by rw [ht]; exact hP, va_K.moved hW.alike hK, hD⟩⟩, hS.F ht⟩) hS.2.2 dX11_mustName_90
      · have hf := it_f hf c16
        exact w81 sMo H locs ls hf hP hD hS (lv_sub hl [1] rfl)
  have w63 : ∀ (sMo : MS), ∀ (H : Heap) (locs : List Loc) (ls : Array Slot), f_X11_mustName_63 F sMo = some res → va_P D vwCl (wMo K hMo sMo) H → va_D A (wMo K hMo sMo) → va_S A s.heap H locs → lv_has ls 2 [(0, .ref (hMo 99))] → W p l e (headSpec wz_X11_mustName r_X11_mustName).room s m args below meth c H locs 0 0 Q (F0 m 63 ls []) := by
    intro sMo H locs ls hf hP hD hS hl
    unfold f_X11_mustName_63 at hf
    refine lv_iconst (v := (1 : Int32)) hx hb dX11_mustName_63 (by decide) ?_
    refine lv_goto (tgt := 68) hx hb dX11_mustName_64 (by decide) ?_
    exact w68 (1 : Int32) sMo H locs ls hf hP hD hS (lv_sub hl [0] rfl)
  have hen : entryFrame m args 2 = entryFrame m (([.ref (hMo 99)] : List Value).toArray) 2 := by rw [hargs]
  have hl := lv_entry ([.ref (hMo 99)]) (n := 2) (Nat.le_of_ble_eq_true rfl)
  rw [hen, lg_entry_eq]
  generalize (lg_sl ([.ref (hMo 99)]) ++ List.replicate (2 - (lg_sl ([.ref (hMo 99)])).length) Slot.unset).toArray = ls at hl ⊢
  have hl : lv_has ls 2 [(0, .ref (hMo 99))] := hl
  unfold f_X11_mustName at hf
  obtain ⟨H, hHe⟩ : ∃ z, z = s.heap := ⟨_, rfl⟩
  obtain ⟨locs, hLe⟩ : ∃ z : List Loc, z = [] := ⟨_, rfl⟩
  rw [← hLe]
  have hS : va_S A s.heap H locs := by rw [hHe, hLe]; exact hS
  have hP : va_P D vwCl (wMo K hMo sMo) H := by rw [hHe]; exact hP
  have hgo : W p l e (headSpec wz_X11_mustName r_X11_mustName).room s m args below meth c H locs 0 0 Q (F0 m 0 ls []) := by
    refine lv_aload_n hx hb dX11_mustName_0 rfl (lv_at hl 0 rfl) ?_
    refine va_ldcS (own := RX11) (index := 139) (tx := "ca\x72") (q := adK 0) hx hb hown (hZ.2.2.2 (RX11, 139, "ca\x72", 0) (List.mem_of_getElem? (i := 0) rfl)) dX11_mustName_1 ?_
    obtain ⟨o1, go1, hf⟩ := bd_s hf
    refine ro_Viz (As := [.ref (adK 0)]) (rest := []) ⟨hx, hb, hml, hown, hts⟩ (c_X11_isWord l D K F adK adV tF hMo sMo 0 o1 go1) (cwV 1 hts (gcV_X11_isWord (mB19 _ (List.mem_of_getElem? (i := 15) rfl))) rfl rfl rfl hdV_X11_isWord ⟨Nat.le_of_ble_eq_true rfl, Nat.le_of_ble_eq_true rfl⟩) hK hP hS hZ hP (va_recv hK hP (ci := 10) (q0 := 0) rfl o_Mo) rfl hl.1 rfl (Nat.le_of_ble_eq_true rfl) dX11_mustName_3 ⟨Nat.zero_le _, Nat.zero_le _⟩ (fun H locs hP hS => ?_)
    refine lv_if_ne (tgt := 63) hx hb dX11_mustName_6 (by decide) (fun c2 => ?_) (fun c2 => ?_)
    · have hf := it_f hf c2
      exact w63 sMo H locs ls hf hP hD hS (lv_sub hl [0] rfl)
    · have hf := it_t hf c2
      refine lv_aload_n hx hb dX11_mustName_9 rfl (lv_at hl 0 rfl) ?_
      refine va_ldcS (own := RX11) (index := 141) (tx := "place") (q := adK 1) hx hb hown (hZ.2.2.2 (RX11, 141, "place", 1) (List.mem_of_getElem? (i := 1) rfl)) dX11_mustName_10 ?_
      obtain ⟨o3, go3, hf⟩ := bd_s hf
      refine ro_Viz (As := [.ref (adK 1)]) (rest := []) ⟨hx, hb, hml, hown, hts⟩ (c_X11_isWord l D K F adK adV tF hMo sMo 1 o3 go3) (cwV 1 hts (gcV_X11_isWord (mB19 _ (List.mem_of_getElem? (i := 15) rfl))) rfl rfl rfl hdV_X11_isWord ⟨Nat.le_of_ble_eq_true rfl, Nat.le_of_ble_eq_true rfl⟩) hK hP hS hZ hP (va_recv hK hP (ci := 10) (q0 := 0) rfl o_Mo) rfl hl.1 rfl (Nat.le_of_ble_eq_true rfl) dX11_mustName_12 ⟨Nat.zero_le _, Nat.zero_le _⟩ (fun H locs hP hS => ?_)
      refine lv_if_ne (tgt := 63) hx hb dX11_mustName_15 (by decide) (fun c4 => ?_) (fun c4 => ?_)
      · have hf := it_f hf c4
        exact w63 sMo H locs ls hf hP hD hS (lv_sub hl [0] rfl)
      · have hf := it_t hf c4
        refine lv_aload_n hx hb dX11_mustName_18 rfl (lv_at hl 0 rfl) ?_
        refine va_ldcS (own := RX11) (index := 142) (tx := "road") (q := adK 2) hx hb hown (hZ.2.2.2 (RX11, 142, "road", 2) (List.mem_of_getElem? (i := 2) rfl)) dX11_mustName_19 ?_
        obtain ⟨o5, go5, hf⟩ := bd_s hf
        refine ro_Viz (As := [.ref (adK 2)]) (rest := []) ⟨hx, hb, hml, hown, hts⟩ (c_X11_isWord l D K F adK adV tF hMo sMo 2 o5 go5) (cwV 1 hts (gcV_X11_isWord (mB19 _ (List.mem_of_getElem? (i := 15) rfl))) rfl rfl rfl hdV_X11_isWord ⟨Nat.le_of_ble_eq_true rfl, Nat.le_of_ble_eq_true rfl⟩) hK hP hS hZ hP (va_recv hK hP (ci := 10) (q0 := 0) rfl o_Mo) rfl hl.1 rfl (Nat.le_of_ble_eq_true rfl) dX11_mustName_21 ⟨Nat.zero_le _, Nat.zero_le _⟩ (fun H locs hP hS => ?_)
        refine lv_if_ne (tgt := 63) hx hb dX11_mustName_24 (by decide) (fun c6 => ?_) (fun c6 => ?_)
        · have hf := it_f hf c6
          exact w63 sMo H locs ls hf hP hD hS (lv_sub hl [0] rfl)
        · have hf := it_t hf c6
          refine lv_aload_n hx hb dX11_mustName_27 rfl (lv_at hl 0 rfl) ?_
          refine va_ldcS (own := RX11) (index := 144) (tx := "pump") (q := adK 3) hx hb hown (hZ.2.2.2 (RX11, 144, "pump", 3) (List.mem_of_getElem? (i := 3) rfl)) dX11_mustName_28 ?_
          obtain ⟨o7, go7, hf⟩ := bd_s hf
          refine ro_Viz (As := [.ref (adK 3)]) (rest := []) ⟨hx, hb, hml, hown, hts⟩ (c_X11_isWord l D K F adK adV tF hMo sMo 3 o7 go7) (cwV 1 hts (gcV_X11_isWord (mB19 _ (List.mem_of_getElem? (i := 15) rfl))) rfl rfl rfl hdV_X11_isWord ⟨Nat.le_of_ble_eq_true rfl, Nat.le_of_ble_eq_true rfl⟩) hK hP hS hZ hP (va_recv hK hP (ci := 10) (q0 := 0) rfl o_Mo) rfl hl.1 rfl (Nat.le_of_ble_eq_true rfl) dX11_mustName_30 ⟨Nat.zero_le _, Nat.zero_le _⟩ (fun H locs hP hS => ?_)
          refine lv_if_ne (tgt := 63) hx hb dX11_mustName_33 (by decide) (fun c8 => ?_) (fun c8 => ?_)
          · have hf := it_f hf c8
            exact w63 sMo H locs ls hf hP hD hS (lv_sub hl [0] rfl)
          · have hf := it_t hf c8
            refine lv_aload_n hx hb dX11_mustName_36 rfl (lv_at hl 0 rfl) ?_
            refine va_ldcS (own := RX11) (index := 146) (tx := "way") (q := adK 4) hx hb hown (hZ.2.2.2 (RX11, 146, "way", 4) (List.mem_of_getElem? (i := 4) rfl)) dX11_mustName_37 ?_
            obtain ⟨o9, go9, hf⟩ := bd_s hf
            refine ro_Viz (As := [.ref (adK 4)]) (rest := []) ⟨hx, hb, hml, hown, hts⟩ (c_X11_isWord l D K F adK adV tF hMo sMo 4 o9 go9) (cwV 1 hts (gcV_X11_isWord (mB19 _ (List.mem_of_getElem? (i := 15) rfl))) rfl rfl rfl hdV_X11_isWord ⟨Nat.le_of_ble_eq_true rfl, Nat.le_of_ble_eq_true rfl⟩) hK hP hS hZ hP (va_recv hK hP (ci := 10) (q0 := 0) rfl o_Mo) rfl hl.1 rfl (Nat.le_of_ble_eq_true rfl) dX11_mustName_39 ⟨Nat.zero_le _, Nat.zero_le _⟩ (fun H locs hP hS => ?_)
            refine lv_if_ne (tgt := 63) hx hb dX11_mustName_42 (by decide) (fun c10 => ?_) (fun c10 => ?_)
            · have hf := it_f hf c10
              exact w63 sMo H locs ls hf hP hD hS (lv_sub hl [0] rfl)
            · have hf := it_t hf c10
              refine lv_aload_n hx hb dX11_mustName_45 rfl (lv_at hl 0 rfl) ?_
              refine va_ldcS (own := RX11) (index := 148) (tx := "receipt") (q := adK 5) hx hb hown (hZ.2.2.2 (RX11, 148, "receipt", 5) (List.mem_of_getElem? (i := 5) rfl)) dX11_mustName_46 ?_
              obtain ⟨o11, go11, hf⟩ := bd_s hf
              refine ro_Viz (As := [.ref (adK 5)]) (rest := []) ⟨hx, hb, hml, hown, hts⟩ (c_X11_isWord l D K F adK adV tF hMo sMo 5 o11 go11) (cwV 1 hts (gcV_X11_isWord (mB19 _ (List.mem_of_getElem? (i := 15) rfl))) rfl rfl rfl hdV_X11_isWord ⟨Nat.le_of_ble_eq_true rfl, Nat.le_of_ble_eq_true rfl⟩) hK hP hS hZ hP (va_recv hK hP (ci := 10) (q0 := 0) rfl o_Mo) rfl hl.1 rfl (Nat.le_of_ble_eq_true rfl) dX11_mustName_48 ⟨Nat.zero_le _, Nat.zero_le _⟩ (fun H locs hP hS => ?_)
              refine lv_if_ne (tgt := 63) hx hb dX11_mustName_51 (by decide) (fun c12 => ?_) (fun c12 => ?_)
              · have hf := it_f hf c12
                exact w63 sMo H locs ls hf hP hD hS (lv_sub hl [0] rfl)
              · have hf := it_t hf c12
                refine lv_aload_n hx hb dX11_mustName_54 rfl (lv_at hl 0 rfl) ?_
                refine va_ldcS (own := RX11) (index := 150) (tx := "o\x72") (q := adK 13) hx hb hown (hZ.2.2.2 (RX11, 150, "o\x72", 13) (List.mem_of_getElem? (i := 6) rfl)) dX11_mustName_55 ?_
                obtain ⟨o13, go13, hf⟩ := bd_s hf
                refine ro_Viz (As := [.ref (adK 13)]) (rest := []) ⟨hx, hb, hml, hown, hts⟩ (c_X11_isWord l D K F adK adV tF hMo sMo 13 o13 go13) (cwV 1 hts (gcV_X11_isWord (mB19 _ (List.mem_of_getElem? (i := 15) rfl))) rfl rfl rfl hdV_X11_isWord ⟨Nat.le_of_ble_eq_true rfl, Nat.le_of_ble_eq_true rfl⟩) hK hP hS hZ hP (va_recv hK hP (ci := 10) (q0 := 0) rfl o_Mo) rfl hl.1 rfl (Nat.le_of_ble_eq_true rfl) dX11_mustName_57 ⟨Nat.zero_le _, Nat.zero_le _⟩ (fun H locs hP hS => ?_)
                refine lv_if_eq (tgt := 67) hx hb dX11_mustName_60 (by decide) (fun c14 => ?_) (fun c14 => ?_)
                · have hf := it_t hf c14
                  refine lv_iconst (v := (0 : Int32)) hx hb dX11_mustName_67 (by decide) ?_
                  exact w68 (0 : Int32) sMo H locs ls hf hP hD hS (lv_sub hl [0] rfl)
                · have hf := it_f hf c14
                  exact w63 sMo H locs ls hf hP hD hS (lv_sub hl [0] rfl)
  rw [hHe] at hgo
  exact hgo

def wz_X11_find : List Cond := .code yX11_find cX11_find 4 (some .int) :: wsL_law
abbrev r_X11_find : Room := { frames := 0, cells := 0, slots := 0, locals := 0 }
set_option maxHeartbeats 4000000 in
set_option maxRecDepth 100000 in
theorem c_X11_find (l : Launch) (D : va_G) (K : Nat → ClassId) (F : Nat) (hMo : Nat → Nat) (sMo : MS) (res : Int32) (hf : f_X11_find F sMo = some res) : Met l yX11_find wz_X11_find r_X11_find (va_Pc [.ref (hMo 99)] (PR D K (wMo K hMo sMo))) (va_Qi (fun r (_ : Unit) => r = res) BN nOne) 0 0 nOne := by
  refine Met.ofW (cc := cX11_find) (maxL := 4) (ret := (some .int)) (by decide) rfl ?_
  intro p e s m args below meth c s₁ B hml hv
  obtain ⟨hargs, hP, hK⟩ := hv
  have hx := B.exec
  have hb := B.bytes
  have hr := B.returns
  have hts := atoms_spec (ws := wz_X11_find) B.pre
  have htl : ∀ w ∈ wsL_law, w.before args s = true := fun w h => hts w (List.mem_cons_of_mem _ h)
  have hown : s.vm.findClass RX11 = some m.cls := findClass_of_methodNamed B.named
  have hlocks := B.notSynchronized
  have hS : va_S nOne s.heap s.heap [] := va_S.rf
  have iX11 : ∀ w ∈ wsX110, w ∈ wz_X11_find := fun w h => List.mem_cons_of_mem _ (inlX11 w h)
  suffices hgo : ∀ Q : State → Prop, Q = MQ below (va_Qi (fun r (_ : Unit) => r = res) BN nOne) args s 0 0 nOne → W p l e (headSpec wz_X11_find r_X11_find).room s m args below meth c s.heap [] 0 0 Q (entryFrame m args 4) from hgo _ rfl
  intro Q hQ
  have w85 : ∀ (k2 : Int32 → Option Int32), (∀ (x1 : Int32), ∀ (H : Heap) (locs : List Loc) (ls : Array Slot), k2 x1 = some res → va_P D vwCl (wMo K hMo sMo) H → va_S nOne s.heap H locs → lv_has ls 4 [(0, .ref (hMo 99)), (1, .int x1)] → W p l e (headSpec wz_X11_find r_X11_find).room s m args below meth c H locs 0 0 Q (F0 m 2 ls [])) → ∀ (x1 : Int32), ∀ (x2 : Int32), ∀ (H : Heap) (locs : List Loc) (ls : Array Slot), f_X11_find_85 F sMo k2 x1 x2 = some res → va_P D vwCl (wMo K hMo sMo) H → va_S nOne s.heap H locs → lv_has ls 4 [(0, .ref (hMo 99)), (1, .int x1), (2, .int x2)] → W p l e (headSpec wz_X11_find r_X11_find).room s m args below meth c H locs 0 0 Q (F0 m 85 ls []) := by
    intro k2 hk2 x1 x2 H locs ls hf hP hS hl
    unfold f_X11_find_85 at hf
    refine lv_iload_n hx hb dX11_find_85 rfl (lv_at hl 2 rfl) ?_
    refine lv_if_eq (tgt := 91) hx hb dX11_find_86 (by decide) (fun c15 => ?_) (fun c15 => ?_)
    · have hf := it_t hf c15
      obtain ⟨v16, ev16⟩ : ∃ z : Int32, z = x1 + (1 : Int32) := ⟨_, rfl⟩
      have hf := lz_s hf v16 ev16
      refine lv_iinc (v := v16) (lv' := [(1, .int v16), (0, .ref (hMo 99)), (2, .int x2)]) hx hb dX11_find_91 hl (k := 1) rfl (by rw [ev16]; rfl) (by decide) rfl (fun ls hl => ?_)
      refine lv_goto (tgt := 2) hx hb dX11_find_94 (by decide) ?_
      exact hk2 v16 H locs ls hf hP hS (lv_sub hl [1, 0] rfl)
    · have hf := it_f hf c15
      refine lv_iload_n hx hb dX11_find_89 rfl (lv_at hl 1 rfl) ?_
      have e9 := Option.some.inj hf
      rw [hQ]
      exact W.iret (v := x1) hx hb hr (fun t ht hW => ⟨⟨x1, (), rfl, e9, trivial⟩, hS.F ht⟩) hS.2.2 dX11_find_90
  have w78 : ∀ (k37 : Int32 → Int32 → Int32 → Option Int32), (∀ (x1 : Int32), ∀ (x2 : Int32), ∀ (x3 : Int32), ∀ (H : Heap) (locs : List Loc) (ls : Array Slot), k37 x1 x2 x3 = some res → va_P D vwCl (wMo K hMo sMo) H → va_S nOne s.heap H locs → lv_has ls 4 [(0, .ref (hMo 99)), (1, .int x1), (2, .int x2), (3, .int x3)] → W p l e (headSpec wz_X11_find r_X11_find).room s m args below meth c H locs 0 0 Q (F0 m 37 ls [])) → ∀ (x1 : Int32), ∀ (x3 : Int32), ∀ (y0 : Int32), ∀ (H : Heap) (locs : List Loc) (ls : Array Slot), f_X11_find_78 F sMo k37 x1 x3 y0 = some res → va_P D vwCl (wMo K hMo sMo) H → va_S nOne s.heap H locs → lv_has ls 4 [(0, .ref (hMo 99)), (1, .int x1), (3, .int x3)] → W p l e (headSpec wz_X11_find r_X11_find).room s m args below meth c H locs 0 0 Q (F0 m 78 ls [.int y0]) := by
    intro k37 hk37 x1 x3 y0 H locs ls hf hP hS hl
    unfold f_X11_find_78 at hf
    refine lv_istore_n (lv' := [(2, .int y0), (0, .ref (hMo 99)), (1, .int x1), (3, .int x3)]) hx hb dX11_find_78 rfl hl (by decide) rfl (fun ls hl => ?_)
    obtain ⟨v14, ev14⟩ : ∃ z : Int32, z = x3 + (1 : Int32) := ⟨_, rfl⟩
    have hf := lz_s hf v14 ev14
    refine lv_iinc (v := v14) (lv' := [(3, .int v14), (2, .int y0), (0, .ref (hMo 99)), (1, .int x1)]) hx hb dX11_find_79 hl (k := 3) rfl (by rw [ev14]; rfl) (by decide) rfl (fun ls hl => ?_)
    refine lv_goto (tgt := 37) hx hb dX11_find_82 (by decide) ?_
    exact hk37 x1 y0 v14 H locs ls hf hP hS (lv_sub hl [2, 3, 1, 0] rfl)
  have w37 : ∀ (k2 : Int32 → Option Int32), (∀ (x1 : Int32), ∀ (H : Heap) (locs : List Loc) (ls : Array Slot), k2 x1 = some res → va_P D vwCl (wMo K hMo sMo) H → va_S nOne s.heap H locs → lv_has ls 4 [(0, .ref (hMo 99)), (1, .int x1)] → W p l e (headSpec wz_X11_find r_X11_find).room s m args below meth c H locs 0 0 Q (F0 m 2 ls [])) → ∀ (n : Nat), ∀ (x1 : Int32), ∀ (x2 : Int32), ∀ (x3 : Int32), ∀ (H : Heap) (locs : List Loc) (ls : Array Slot), f_X11_find_37 F sMo k2 n x1 x2 x3 = some res → va_P D vwCl (wMo K hMo sMo) H → va_S nOne s.heap H locs → lv_has ls 4 [(0, .ref (hMo 99)), (1, .int x1), (2, .int x2), (3, .int x3)] → W p l e (headSpec wz_X11_find r_X11_find).room s m args below meth c H locs 0 0 Q (F0 m 37 ls []) := by
    intro k2 hk2 n
    induction n with
    | zero =>
      intro x1 x2 x3 H locs ls hf
      exact absurd (show none = some res from hf) (fun h => nomatch h)
    | succ n ih =>
      intro x1 x2 x3 H locs ls hf hP hS hl
      rw [f_X11_find_37] at hf
      refine lv_iload_n hx hb dX11_find_37 rfl (lv_at hl 3 rfl) ?_
      refine lv_aload_n hx hb dX11_find_38 rfl (lv_at hl 0 rfl) ?_
      refine va_get (D := D) (ci := 10) (v := .int (sMo.1 8)) (C := RX11) (T := TX11) (N := 41) hx hb hts iX11 hown hK hP 0 o_Mo rfl 8 (by decide) (htl _ (mB18 _ (List.mem_of_getElem? (i := 23) rfl))) (fun _ h9 => h9) rfl dX11_find_39 ?_
      refine lv_icmp_ge (tgt := 85) hx hb dX11_find_42 (by decide) (fun c7 => ?_) (fun c7 => ?_)
      · have hf := it_t hf c7
        exact w85 k2 hk2 x1 x2 H locs ls hf hP hS (lv_sub hl [0, 1, 2] rfl)
      · have hf := it_f hf c7
        refine lv_iload_n hx hb dX11_find_45 rfl (lv_at hl 2 rfl) ?_
        refine lv_if_eq (tgt := 85) hx hb dX11_find_46 (by decide) (fun c8 => ?_) (fun c8 => ?_)
        · have hf := it_t hf c8
          exact w85 k2 hk2 x1 x2 H locs ls hf hP hS (lv_sub hl [0, 1, 2] rfl)
        · have hf := it_f hf c8
          refine lv_aload_n hx hb dX11_find_49 rfl (lv_at hl 0 rfl) ?_
          refine va_get (D := D) (ci := 10) (v := .ref (hMo 16)) (C := RX11) (T := TX11) (N := 41) hx hb hts iX11 hown hK hP 0 o_Mo rfl 16 (by decide) (htl _ (mB6 _ (List.mem_of_getElem? (i := 4) rfl))) (fun _ h9 => h9) rfl dX11_find_50 ?_
          refine lv_sipush (v := (228 : Int32)) hx hb dX11_find_53 (by decide) ?_
          refine lv_bipush (v := (8 : Int32)) hx hb dX11_find_56 (by decide) ?_
          refine lv_iload_n hx hb dX11_find_58 rfl (lv_at hl 1 rfl) ?_
          refine lv_imul hx hb dX11_find_59 ?_
          refine lv_iadd hx hb dX11_find_60 ?_
          refine lv_iload_n hx hb dX11_find_61 rfl (lv_at hl 3 rfl) ?_
          refine lv_iadd hx hb dX11_find_62 ?_
          obtain ⟨g9, hf⟩ := gd_s hf
          refine va_iald hx hb hK hP 4 0 (f := sMo.2.2.1 16) a_Mo_16 rfl (vpb_in g9) dX11_find_63 ?_
          refine lv_topi (fun v10 ev10 => ?_)
          have hf := lz_s hf v10 ev10
          refine lv_aload_n hx hb dX11_find_64 rfl (lv_at hl 0 rfl) ?_
          refine va_get (D := D) (ci := 10) (v := .ref (hMo 12)) (C := RX11) (T := TX11) (N := 41) hx hb hts iX11 hown hK hP 0 o_Mo rfl 12 (by decide) (htl _ (mB6 _ (List.mem_of_getElem? (i := 2) rfl))) (fun _ h9 => h9) rfl dX11_find_65 ?_
          refine lv_iload_n hx hb dX11_find_68 rfl (lv_at hl 3 rfl) ?_
          obtain ⟨g11, hf⟩ := gd_s hf
          refine va_iald hx hb hK hP 2 0 (f := sMo.2.2.1 12) a_Mo_12 rfl (vpb_in g11) dX11_find_69 ?_
          refine lv_topi (fun v12 ev12 => ?_)
          have hf := lz_s hf v12 ev12
          refine lv_icmp_ne (tgt := 77) hx hb dX11_find_70 (by decide) (fun c13 => ?_) (fun c13 => ?_)
          · have hf := it_f hf c13
            refine lv_iconst (v := (0 : Int32)) hx hb dX11_find_77 (by decide) ?_
            exact w78 (f_X11_find_37 F sMo k2 n) ih x1 x3 (0 : Int32) H locs ls hf hP hS (lv_sub hl [0, 1, 3] rfl)
          · have hf := it_t hf c13
            refine lv_iconst (v := (1 : Int32)) hx hb dX11_find_73 (by decide) ?_
            refine lv_goto (tgt := 78) hx hb dX11_find_74 (by decide) ?_
            exact w78 (f_X11_find_37 F sMo k2 n) ih x1 x3 (1 : Int32) H locs ls hf hP hS (lv_sub hl [0, 1, 3] rfl)
  have w34 : ∀ (k2 : Int32 → Option Int32), (∀ (x1 : Int32), ∀ (H : Heap) (locs : List Loc) (ls : Array Slot), k2 x1 = some res → va_P D vwCl (wMo K hMo sMo) H → va_S nOne s.heap H locs → lv_has ls 4 [(0, .ref (hMo 99)), (1, .int x1)] → W p l e (headSpec wz_X11_find r_X11_find).room s m args below meth c H locs 0 0 Q (F0 m 2 ls [])) → ∀ (x1 : Int32), ∀ (y0 : Int32), ∀ (H : Heap) (locs : List Loc) (ls : Array Slot), f_X11_find_34 F sMo k2 x1 y0 = some res → va_P D vwCl (wMo K hMo sMo) H → va_S nOne s.heap H locs → lv_has ls 4 [(0, .ref (hMo 99)), (1, .int x1)] → W p l e (headSpec wz_X11_find r_X11_find).room s m args below meth c H locs 0 0 Q (F0 m 34 ls [.int y0]) := by
    intro k2 hk2 x1 y0 H locs ls hf hP hS hl
    unfold f_X11_find_34 at hf
    refine lv_istore_n (lv' := [(2, .int y0), (0, .ref (hMo 99)), (1, .int x1)]) hx hb dX11_find_34 rfl hl (by decide) rfl (fun ls hl => ?_)
    refine lv_iconst (v := (0 : Int32)) hx hb dX11_find_35 (by decide) ?_
    refine lv_istore_n (lv' := [(3, .int (0 : Int32)), (2, .int y0), (0, .ref (hMo 99)), (1, .int x1)]) hx hb dX11_find_36 rfl hl (by decide) rfl (fun ls hl => ?_)
    exact w37 k2 hk2 F x1 y0 (0 : Int32) H locs ls hf hP hS (lv_sub hl [2, 3, 1, 0] rfl)
  have w2 : ∀ (n : Nat), ∀ (x1 : Int32), ∀ (H : Heap) (locs : List Loc) (ls : Array Slot), f_X11_find_2 F sMo n x1 = some res → va_P D vwCl (wMo K hMo sMo) H → va_S nOne s.heap H locs → lv_has ls 4 [(0, .ref (hMo 99)), (1, .int x1)] → W p l e (headSpec wz_X11_find r_X11_find).room s m args below meth c H locs 0 0 Q (F0 m 2 ls []) := by
    intro n
    induction n with
    | zero =>
      intro x1 H locs ls hf
      exact absurd (show none = some res from hf) (fun h => nomatch h)
    | succ n ih =>
      intro x1 H locs ls hf hP hS hl
      rw [f_X11_find_2] at hf
      refine lv_iload_n hx hb dX11_find_2 rfl (lv_at hl 1 rfl) ?_
      refine lv_aload_n hx hb dX11_find_3 rfl (lv_at hl 0 rfl) ?_
      refine va_get (D := D) (ci := 10) (v := .ref (hMo 16)) (C := RX11) (T := TX11) (N := 41) hx hb hts iX11 hown hK hP 0 o_Mo rfl 16 (by decide) (htl _ (mB6 _ (List.mem_of_getElem? (i := 4) rfl))) (fun _ h9 => h9) rfl dX11_find_4 ?_
      refine lv_iconst (v := (5 : Int32)) hx hb dX11_find_7 (by decide) ?_
      obtain ⟨g1, hf⟩ := gd_s hf
      refine va_iald hx hb hK hP 4 0 (f := sMo.2.2.1 16) a_Mo_16 rfl (vpb_in g1) dX11_find_8 ?_
      refine lv_topi (fun v2 ev2 => ?_)
      have hf := lz_s hf v2 ev2
      refine lv_icmp_ge (tgt := 97) hx hb dX11_find_9 (by decide) (fun c3 => ?_) (fun c3 => ?_)
      · have hf := it_t hf c3
        refine lv_iconst (v := (-1 : Int32)) hx hb dX11_find_97 (by decide) ?_
        have e9 := Option.some.inj hf
        rw [hQ]
        exact W.iret (v := (-1 : Int32)) hx hb hr (fun t ht hW => ⟨⟨(-1 : Int32), (), rfl, e9, trivial⟩, hS.F ht⟩) hS.2.2 dX11_find_98
      · have hf := it_f hf c3
        refine lv_aload_n hx hb dX11_find_12 rfl (lv_at hl 0 rfl) ?_
        refine va_get (D := D) (ci := 10) (v := .ref (hMo 16)) (C := RX11) (T := TX11) (N := 41) hx hb hts iX11 hown hK hP 0 o_Mo rfl 16 (by decide) (htl _ (mB6 _ (List.mem_of_getElem? (i := 4) rfl))) (fun _ h9 => h9) rfl dX11_find_13 ?_
        refine lv_sipush (v := (219 : Int32)) hx hb dX11_find_16 (by decide) ?_
        refine lv_iload_n hx hb dX11_find_19 rfl (lv_at hl 1 rfl) ?_
        refine lv_iadd hx hb dX11_find_20 ?_
        obtain ⟨g4, hf⟩ := gd_s hf
        refine va_iald hx hb hK hP 4 0 (f := sMo.2.2.1 16) a_Mo_16 rfl (vpb_in g4) dX11_find_21 ?_
        refine lv_topi (fun v5 ev5 => ?_)
        have hf := lz_s hf v5 ev5
        refine lv_aload_n hx hb dX11_find_22 rfl (lv_at hl 0 rfl) ?_
        refine va_get (D := D) (ci := 10) (v := .int (sMo.1 8)) (C := RX11) (T := TX11) (N := 41) hx hb hts iX11 hown hK hP 0 o_Mo rfl 8 (by decide) (htl _ (mB18 _ (List.mem_of_getElem? (i := 23) rfl))) (fun _ h9 => h9) rfl dX11_find_23 ?_
        refine lv_icmp_ne (tgt := 33) hx hb dX11_find_26 (by decide) (fun c6 => ?_) (fun c6 => ?_)
        · have hf := it_f hf c6
          refine lv_iconst (v := (0 : Int32)) hx hb dX11_find_33 (by decide) ?_
          exact w34 (f_X11_find_2 F sMo n) ih x1 (0 : Int32) H locs ls hf hP hS (lv_sub hl [0, 1] rfl)
        · have hf := it_t hf c6
          refine lv_iconst (v := (1 : Int32)) hx hb dX11_find_29 (by decide) ?_
          refine lv_goto (tgt := 34) hx hb dX11_find_30 (by decide) ?_
          exact w34 (f_X11_find_2 F sMo n) ih x1 (1 : Int32) H locs ls hf hP hS (lv_sub hl [0, 1] rfl)
  have hen : entryFrame m args 4 = entryFrame m (([.ref (hMo 99)] : List Value).toArray) 4 := by rw [hargs]
  have hl := lv_entry ([.ref (hMo 99)]) (n := 4) (Nat.le_of_ble_eq_true rfl)
  rw [hen, lg_entry_eq]
  generalize (lg_sl ([.ref (hMo 99)]) ++ List.replicate (4 - (lg_sl ([.ref (hMo 99)])).length) Slot.unset).toArray = ls at hl ⊢
  have hl : lv_has ls 4 [(0, .ref (hMo 99))] := hl
  unfold f_X11_find at hf
  obtain ⟨H, hHe⟩ : ∃ z, z = s.heap := ⟨_, rfl⟩
  obtain ⟨locs, hLe⟩ : ∃ z : List Loc, z = [] := ⟨_, rfl⟩
  rw [← hLe]
  have hS : va_S nOne s.heap H locs := by rw [hHe, hLe]; exact hS
  have hP : va_P D vwCl (wMo K hMo sMo) H := by rw [hHe]; exact hP
  have hgo : W p l e (headSpec wz_X11_find r_X11_find).room s m args below meth c H locs 0 0 Q (F0 m 0 ls []) := by
    refine lv_iconst (v := (0 : Int32)) hx hb dX11_find_0 (by decide) ?_
    refine lv_istore_n (lv' := [(1, .int (0 : Int32)), (0, .ref (hMo 99))]) hx hb dX11_find_1 rfl hl (by decide) rfl (fun ls hl => ?_)
    exact w2 F (0 : Int32) H locs ls hf hP hS (lv_sub hl [1, 0] rfl)
  rw [hHe] at hgo
  exact hgo

theorem gcV_X11_mustName {T0 : Cond} {own : String} {i : Nat} (h : Cond.methodLink own i yX11_mustName ∈ wsL_law) : GoodIn (T0 :: wsL_law) (wsV own i RX11 yX11_mustName wz_X11_mustName) := gV h (mB21 _ (List.mem_of_getElem? (i := 14) rfl)) (mB21 _ (List.mem_of_getElem? (i := 15) rfl)) (mB1 _ (List.mem_of_getElem? (i := 5) rfl)) (mB21 _ (List.mem_of_getElem? (i := 16) rfl))
theorem hdV_X11_mustName : yX11_mustName.cls = RX11 ∧ yX11_mustName.cls ≠ "java/lang/invoke/MethodHandle" ∧ yX11_mustName.cls ≠ "java/lang/invoke/VarHandle" ∧ (parseMethodDescriptor yX11_mustName.desc).map (fun d => d.parameters.length) = some 0 := by decide +kernel
theorem gcV_X11_find {T0 : Cond} {own : String} {i : Nat} (h : Cond.methodLink own i yX11_find ∈ wsL_law) : GoodIn (T0 :: wsL_law) (wsV own i RX11 yX11_find wz_X11_find) := gV h (mB21 _ (List.mem_of_getElem? (i := 18) rfl)) (mB21 _ (List.mem_of_getElem? (i := 19) rfl)) (mB1 _ (List.mem_of_getElem? (i := 5) rfl)) (mB21 _ (List.mem_of_getElem? (i := 20) rfl))
theorem hdV_X11_find : yX11_find.cls = RX11 ∧ yX11_find.cls ≠ "java/lang/invoke/MethodHandle" ∧ yX11_find.cls ≠ "java/lang/invoke/VarHandle" ∧ (parseMethodDescriptor yX11_find.desc).map (fun d => d.parameters.length) = some 0 := by decide +kernel
def wz_X11_placeHere : List Cond := .code yX11_placeHere cX11_placeHere 2 (some .int) :: wsL_law
abbrev r_X11_placeHere : Room := { frames := 6, cells := 0, slots := 0, locals := 129 }
set_option maxHeartbeats 4000000 in
set_option maxRecDepth 100000 in
theorem c_X11_placeHere (l : Launch) (D : va_G) (K : Nat → ClassId) (F : Nat) (adK adV : Nat → Nat) (tF : Nat) (hMo : Nat → Nat) (sz : Nat) (sMo : MS) (res : Int32 × MS) (hf : f_X11_placeHere F sMo = some res) : Met l yX11_placeHere wz_X11_placeHere r_X11_placeHere (va_Pc [.ref (hMo 99)] (PWz D K adK adV tF (wMo K hMo sMo) sz)) (va_Qi (fun r u => r = res.1 ∧ u = res.2) (fun u t => BW D K (va_A (wMo K hMo sMo) sz) (wMo K hMo u) t) (va_A (wMo K hMo sMo) sz)) 0 0 (va_A (wMo K hMo sMo) sz) := by
  refine Met.ofW (cc := cX11_placeHere) (maxL := 2) (ret := (some .int)) (by decide) rfl ?_
  intro p e s m args below meth c s₁ B hml hv
  obtain ⟨hargs, ⟨hsz, hP, hK, hD0⟩, hZ⟩ := hv
  have hx := B.exec
  have hb := B.bytes
  have hr := B.returns
  have hts := atoms_spec (ws := wz_X11_placeHere) B.pre
  have htl : ∀ w ∈ wsL_law, w.before args s = true := fun w h => hts w (List.mem_cons_of_mem _ h)
  have hown : s.vm.findClass RX11 = some m.cls := findClass_of_methodNamed B.named
  have hlocks := B.notSynchronized
  subst hsz
  have hD := hD0.self (sz := s.heap.size)
  generalize hAe : va_A (wMo K hMo sMo) s.heap.size = A at hD hZ ⊢
  have hA : ∀ q : Nat, s.heap.size ≤ q → A q := fun q h => by rw [← hAe]; exact Or.inr h
  have hS : va_S A s.heap s.heap [] := va_S.rf
  have iX11 : ∀ w ∈ wsX110, w ∈ wz_X11_placeHere := fun w h => List.mem_cons_of_mem _ (inlX11 w h)
  suffices hgo : ∀ Q : State → Prop, Q = MQ below (va_Qi (fun r u => r = res.1 ∧ u = res.2) (fun u t => BW D K A (wMo K hMo u) t) A) args s 0 0 A → W p l e (headSpec wz_X11_placeHere r_X11_placeHere).room s m args below meth c s.heap [] 0 0 Q (entryFrame m args 2) from hgo _ rfl
  intro Q hQ
  have w40 : ∀ (x1 : Int32), ∀ (sMo : MS), ∀ (H : Heap) (locs : List Loc) (ls : Array Slot), f_X11_placeHere_40 F x1 sMo = some res → va_P D vwCl (wMo K hMo sMo) H → va_D A (wMo K hMo sMo) → va_S A s.heap H locs → lv_has ls 2 [(0, .ref (hMo 99)), (1, .int x1)] → W p l e (headSpec wz_X11_placeHere r_X11_placeHere).room s m args below meth c H locs 0 0 Q (F0 m 40 ls []) := by
    intro x1 sMo H locs ls hf hP hD hS hl
    unfold f_X11_placeHere_40 at hf
    refine lv_aload_n hx hb dX11_placeHere_40 rfl (lv_at hl 0 rfl) ?_
    refine va_get (D := D) (ci := 10) (v := .int (sMo.1 13)) (C := RX11) (T := TX11) (N := 41) hx hb hts iX11 hown hK hP 0 o_Mo rfl 13 (by decide) (htl _ (mB17 _ (List.mem_of_getElem? (i := 23) rfl))) (fun _ h9 => h9) rfl dX11_placeHere_41 ?_
    refine lv_if_eq (tgt := 51) hx hb dX11_placeHere_44 (by decide) (fun c7 => ?_) (fun c7 => ?_)
    · have hf := it_t hf c7
      refine lv_iload_n hx hb dX11_placeHere_51 rfl (lv_at hl 1 rfl) ?_
      have e9 := Option.some.inj hf
      rw [hQ]
      exact W.iret (v := x1) hx hb hr (fun t ht hW => ⟨⟨x1, sMo, rfl, ⟨pr1 e9, pr2 e9⟩, ⟨by rw [ht]; exact hP, va_K.moved hW.alike hK, hD⟩⟩, hS.F ht⟩) hS.2.2 dX11_placeHere_52
    · have hf := it_f hf c7
      refine lv_iconst (v := (0 : Int32)) hx hb dX11_placeHere_47 (by decide) ?_
      refine lv_goto (tgt := 52) hx hb dX11_placeHere_48 (by decide) ?_
      have e9 := Option.some.inj hf
      rw [hQ]
      exact W.iret (v := (0 : Int32)) hx hb hr (fun t ht hW => ⟨⟨(0 : Int32), sMo, rfl, ⟨pr1 e9, pr2 e9⟩, ⟨by rw [ht]; exact hP, va_K.moved hW.alike hK, hD⟩⟩, hS.F ht⟩) hS.2.2 dX11_placeHere_52
  have hen : entryFrame m args 2 = entryFrame m (([.ref (hMo 99)] : List Value).toArray) 2 := by rw [hargs]
  have hl := lv_entry ([.ref (hMo 99)]) (n := 2) (Nat.le_of_ble_eq_true rfl)
  rw [hen, lg_entry_eq]
  generalize (lg_sl ([.ref (hMo 99)]) ++ List.replicate (2 - (lg_sl ([.ref (hMo 99)])).length) Slot.unset).toArray = ls at hl ⊢
  have hl : lv_has ls 2 [(0, .ref (hMo 99))] := hl
  unfold f_X11_placeHere at hf
  obtain ⟨H, hHe⟩ : ∃ z, z = s.heap := ⟨_, rfl⟩
  obtain ⟨locs, hLe⟩ : ∃ z : List Loc, z = [] := ⟨_, rfl⟩
  rw [← hLe]
  have hS : va_S A s.heap H locs := by rw [hHe, hLe]; exact hS
  have hP : va_P D vwCl (wMo K hMo sMo) H := by rw [hHe]; exact hP
  have hgo : W p l e (headSpec wz_X11_placeHere r_X11_placeHere).room s m args below meth c H locs 0 0 Q (F0 m 0 ls []) := by
    refine lv_aload_n hx hb dX11_placeHere_0 rfl (lv_at hl 0 rfl) ?_
    refine va_get (D := D) (ci := 10) (v := .int (sMo.1 13)) (C := RX11) (T := TX11) (N := 41) hx hb hts iX11 hown hK hP 0 o_Mo rfl 13 (by decide) (htl _ (mB17 _ (List.mem_of_getElem? (i := 23) rfl))) (fun _ h9 => h9) rfl dX11_placeHere_1 ?_
    refine lv_if_eq (tgt := 9) hx hb dX11_placeHere_4 (by decide) (fun c1 => ?_) (fun c1 => ?_)
    · have hf := it_t hf c1
      refine lv_aload_n hx hb dX11_placeHere_9 rfl (lv_at hl 0 rfl) ?_
      obtain ⟨o2, go2, hf⟩ := bd_s hf
      refine rs_Vvz (As := []) (rest := []) ⟨hx, hb, hml, hown, hts⟩ (c_X11_mustName l D K F adK adV tF hMo H.size sMo o2 go2) (cwV 0 hts (gcV_X11_mustName (mB21 _ (List.mem_of_getElem? (i := 13) rfl))) rfl rfl rfl hdV_X11_mustName ⟨Nat.le_of_ble_eq_true rfl, Nat.le_of_ble_eq_true rfl⟩) hK hP hD hS hA hZ (va_recv hK hP (ci := 10) (q0 := 0) rfl o_Mo) rfl hl.1 rfl (Nat.le_of_ble_eq_true rfl) dX11_placeHere_10 ⟨Nat.zero_le _, Nat.zero_le _⟩ (fun H locs hP hD hS => ?_)
      have hP : va_P D vwCl (wMo K hMo o2) H := hP
      have hD : va_D A (wMo K hMo o2) := hD
      refine lv_aload_n hx hb dX11_placeHere_13 rfl (lv_at hl 0 rfl) ?_
      refine va_get (D := D) (ci := 10) (v := .int (o2.1 13)) (C := RX11) (T := TX11) (N := 41) hx hb hts iX11 hown hK hP 0 o_Mo rfl 13 (by decide) (htl _ (mB17 _ (List.mem_of_getElem? (i := 23) rfl))) (fun _ h9 => h9) rfl dX11_placeHere_14 ?_
      refine lv_if_eq (tgt := 22) hx hb dX11_placeHere_17 (by decide) (fun c3 => ?_) (fun c3 => ?_)
      · have hf := it_t hf c3
        refine lv_aload_n hx hb dX11_placeHere_22 rfl (lv_at hl 0 rfl) ?_
        obtain ⟨o4, go4, hf⟩ := bd_s hf
        refine ro_Vi (As := []) (rest := []) ⟨hx, hb, hml, hown, hts⟩ (c_X11_find l D K F hMo o2 o4 go4) (cwV 0 hts (gcV_X11_find (mB21 _ (List.mem_of_getElem? (i := 17) rfl))) rfl rfl rfl hdV_X11_find ⟨Nat.le_of_ble_eq_true rfl, Nat.le_of_ble_eq_true rfl⟩) hK hP hS hP (va_recv hK hP (ci := 10) (q0 := 0) rfl o_Mo) rfl hl.1 rfl (Nat.le_of_ble_eq_true rfl) dX11_placeHere_23 ⟨Nat.zero_le _, Nat.zero_le _⟩ (fun H locs hP hS => ?_)
        refine lv_istore_n (lv' := [(1, .int o4), (0, .ref (hMo 99))]) hx hb dX11_placeHere_26 rfl hl (by decide) rfl (fun ls hl => ?_)
        refine lv_iload_n hx hb dX11_placeHere_27 rfl (lv_at hl 0 rfl) ?_
        refine lv_if_ge (tgt := 40) hx hb dX11_placeHere_28 (by decide) (fun c5 => ?_) (fun c5 => ?_)
        · have hf := it_t hf c5
          exact w40 o4 o2 H locs ls hf hP hD hS (lv_sub hl [1, 0] rfl)
        · have hf := it_f hf c5
          refine lv_aload_n hx hb dX11_placeHere_31 rfl (lv_at hl 1 rfl) ?_
          refine lv_iconst (v := (2 : Int32)) hx hb dX11_placeHere_32 (by decide) ?_
          refine lv_aload_n hx hb dX11_placeHere_33 rfl (lv_at hl 1 rfl) ?_
          refine va_get (D := D) (ci := 10) (v := .int (o2.1 4)) (C := RX11) (T := TX11) (N := 41) hx hb hts iX11 hown hK hP 0 o_Mo rfl 4 (by decide) (htl _ (mB18 _ (List.mem_of_getElem? (i := 3) rfl))) (fun _ h9 => h9) rfl dX11_placeHere_34 ?_
          obtain ⟨o6, go6, hf⟩ := bd_s hf
          refine rs_Vv (As := [.int (2 : Int32), .int (o2.1 4)]) (rest := []) ⟨hx, hb, hml, hown, hts⟩ (c_X11_wrong l D K F hMo H.size o2 (2 : Int32) (o2.1 4) o6 go6) (cwV 2 hts (gcV_X11_wrong (mB20 _ (List.mem_of_getElem? (i := 1) rfl))) rfl rfl rfl hdV_X11_wrong ⟨Nat.le_of_ble_eq_true rfl, Nat.le_of_ble_eq_true rfl⟩) hK hP hD hS hA (va_recv hK hP (ci := 10) (q0 := 0) rfl o_Mo) rfl hl.1 rfl (Nat.le_of_ble_eq_true rfl) dX11_placeHere_37 ⟨Nat.zero_le _, Nat.zero_le _⟩ (fun H locs hP hD hS => ?_)
          have hP : va_P D vwCl (wMo K hMo o6) H := hP
          have hD : va_D A (wMo K hMo o6) := hD
          exact w40 o4 o6 H locs ls hf hP hD hS (lv_sub hl [1, 0] rfl)
      · have hf := it_f hf c3
        refine lv_iconst (v := (0 : Int32)) hx hb dX11_placeHere_20 (by decide) ?_
        have e9 := Option.some.inj hf
        rw [hQ]
        exact W.iret (v := (0 : Int32)) hx hb hr (fun t ht hW => ⟨⟨(0 : Int32), o2, rfl, ⟨pr1 e9, pr2 e9⟩, ⟨by rw [ht]; exact hP, va_K.moved hW.alike hK, hD⟩⟩, hS.F ht⟩) hS.2.2 dX11_placeHere_21
    · have hf := it_f hf c1
      refine lv_iconst (v := (0 : Int32)) hx hb dX11_placeHere_7 (by decide) ?_
      have e9 := Option.some.inj hf
      rw [hQ]
      exact W.iret (v := (0 : Int32)) hx hb hr (fun t ht hW => ⟨⟨(0 : Int32), sMo, rfl, ⟨pr1 e9, pr2 e9⟩, ⟨by rw [ht]; exact hP, va_K.moved hW.alike hK, hD⟩⟩, hS.F ht⟩) hS.2.2 dX11_placeHere_8
  rw [hHe] at hgo
  exact hgo

theorem gcV_X11_placeHere {T0 : Cond} {own : String} {i : Nat} (h : Cond.methodLink own i yX11_placeHere ∈ wsL_law) : GoodIn (T0 :: wsL_law) (wsV own i RX11 yX11_placeHere wz_X11_placeHere) := gV h (mB22 _ (List.mem_of_getElem? (i := 6) rfl)) (mB22 _ (List.mem_of_getElem? (i := 7) rfl)) (mB1 _ (List.mem_of_getElem? (i := 5) rfl)) (mB22 _ (List.mem_of_getElem? (i := 8) rfl))
theorem hdV_X11_placeHere : yX11_placeHere.cls = RX11 ∧ yX11_placeHere.cls ≠ "java/lang/invoke/MethodHandle" ∧ yX11_placeHere.cls ≠ "java/lang/invoke/VarHandle" ∧ (parseMethodDescriptor yX11_placeHere.desc).map (fun d => d.parameters.length) = some 0 := by decide +kernel
def wz_X11_placePassed : List Cond := .code yX11_placePassed cX11_placePassed 2 (some .int) :: wsL_law
abbrev r_X11_placePassed : Room := { frames := 7, cells := 0, slots := 0, locals := 150 }
set_option maxHeartbeats 4000000 in
set_option maxRecDepth 100000 in
theorem c_X11_placePassed (l : Launch) (D : va_G) (K : Nat → ClassId) (F : Nat) (adK adV : Nat → Nat) (tF : Nat) (hMo : Nat → Nat) (sz : Nat) (sMo : MS) (res : Int32 × MS) (hf : f_X11_placePassed F sMo = some res) : Met l yX11_placePassed wz_X11_placePassed r_X11_placePassed (va_Pc [.ref (hMo 99)] (PWz D K adK adV tF (wMo K hMo sMo) sz)) (va_Qi (fun r u => r = res.1 ∧ u = res.2) (fun u t => BW D K (va_A (wMo K hMo sMo) sz) (wMo K hMo u) t) (va_A (wMo K hMo sMo) sz)) 0 0 (va_A (wMo K hMo sMo) sz) := by
  refine Met.ofW (cc := cX11_placePassed) (maxL := 2) (ret := (some .int)) (by decide) rfl ?_
  intro p e s m args below meth c s₁ B hml hv
  obtain ⟨hargs, ⟨hsz, hP, hK, hD0⟩, hZ⟩ := hv
  have hx := B.exec
  have hb := B.bytes
  have hr := B.returns
  have hts := atoms_spec (ws := wz_X11_placePassed) B.pre
  have htl : ∀ w ∈ wsL_law, w.before args s = true := fun w h => hts w (List.mem_cons_of_mem _ h)
  have hown : s.vm.findClass RX11 = some m.cls := findClass_of_methodNamed B.named
  have hlocks := B.notSynchronized
  subst hsz
  have hD := hD0.self (sz := s.heap.size)
  generalize hAe : va_A (wMo K hMo sMo) s.heap.size = A at hD hZ ⊢
  have hA : ∀ q : Nat, s.heap.size ≤ q → A q := fun q h => by rw [← hAe]; exact Or.inr h
  have hS : va_S A s.heap s.heap [] := va_S.rf
  have iX11 : ∀ w ∈ wsX110, w ∈ wz_X11_placePassed := fun w h => List.mem_cons_of_mem _ (inlX11 w h)
  suffices hgo : ∀ Q : State → Prop, Q = MQ below (va_Qi (fun r u => r = res.1 ∧ u = res.2) (fun u t => BW D K A (wMo K hMo u) t) A) args s 0 0 A → W p l e (headSpec wz_X11_placePassed r_X11_placePassed).room s m args below meth c s.heap [] 0 0 Q (entryFrame m args 2) from hgo _ rfl
  intro Q hQ
  have hen : entryFrame m args 2 = entryFrame m (([.ref (hMo 99)] : List Value).toArray) 2 := by rw [hargs]
  have hl := lv_entry ([.ref (hMo 99)]) (n := 2) (Nat.le_of_ble_eq_true rfl)
  rw [hen, lg_entry_eq]
  generalize (lg_sl ([.ref (hMo 99)]) ++ List.replicate (2 - (lg_sl ([.ref (hMo 99)])).length) Slot.unset).toArray = ls at hl ⊢
  have hl : lv_has ls 2 [(0, .ref (hMo 99))] := hl
  unfold f_X11_placePassed at hf
  obtain ⟨H, hHe⟩ : ∃ z, z = s.heap := ⟨_, rfl⟩
  obtain ⟨locs, hLe⟩ : ∃ z : List Loc, z = [] := ⟨_, rfl⟩
  rw [← hLe]
  have hS : va_S A s.heap H locs := by rw [hHe, hLe]; exact hS
  have hP : va_P D vwCl (wMo K hMo sMo) H := by rw [hHe]; exact hP
  have hgo : W p l e (headSpec wz_X11_placePassed r_X11_placePassed).room s m args below meth c H locs 0 0 Q (F0 m 0 ls []) := by
    refine lv_aload_n hx hb dX11_placePassed_0 rfl (lv_at hl 0 rfl) ?_
    obtain ⟨o1, go1, hf⟩ := bd_s hf
    refine rs_Viz (As := []) (rest := []) ⟨hx, hb, hml, hown, hts⟩ (c_X11_placeHere l D K F adK adV tF hMo H.size sMo o1 go1) (cwV 0 hts (gcV_X11_placeHere (mB22 _ (List.mem_of_getElem? (i := 5) rfl))) rfl rfl rfl hdV_X11_placeHere ⟨Nat.le_of_ble_eq_true rfl, Nat.le_of_ble_eq_true rfl⟩) hK hP hD hS hA hZ (va_recv hK hP (ci := 10) (q0 := 0) rfl o_Mo) rfl hl.1 rfl (Nat.le_of_ble_eq_true rfl) dX11_placePassed_1 ⟨Nat.zero_le _, Nat.zero_le _⟩ (fun H locs hP hD hS => ?_)
    have hP : va_P D vwCl (wMo K hMo o1.2) H := hP
    have hD : va_D A (wMo K hMo o1.2) := hD
    refine lv_istore_n (lv' := [(1, .int o1.1), (0, .ref (hMo 99))]) hx hb dX11_placePassed_4 rfl hl (by decide) rfl (fun ls hl => ?_)
    refine lv_aload_n hx hb dX11_placePassed_5 rfl (lv_at hl 1 rfl) ?_
    refine va_get (D := D) (ci := 10) (v := .int (o1.2.1 13)) (C := RX11) (T := TX11) (N := 41) hx hb hts iX11 hown hK hP 0 o_Mo rfl 13 (by decide) (htl _ (mB17 _ (List.mem_of_getElem? (i := 23) rfl))) (fun _ h9 => h9) rfl dX11_placePassed_6 ?_
    refine lv_if_ne (tgt := 16) hx hb dX11_placePassed_9 (by decide) (fun c2 => ?_) (fun c2 => ?_)
    · have hf := it_f hf c2
      refine lv_iload_n hx hb dX11_placePassed_16 rfl (lv_at hl 0 rfl) ?_
      have e9 := Option.some.inj hf
      rw [hQ]
      exact W.iret (v := o1.1) hx hb hr (fun t ht hW => ⟨⟨o1.1, o1.2, rfl, ⟨pr1 e9, pr2 e9⟩, ⟨by rw [ht]; exact hP, va_K.moved hW.alike hK, hD⟩⟩, hS.F ht⟩) hS.2.2 dX11_placePassed_17
    · have hf := it_t hf c2
      refine lv_aload_n hx hb dX11_placePassed_12 rfl (lv_at hl 1 rfl) ?_
      obtain ⟨o3, go3, hf⟩ := bd_s hf
      refine rs_Vv (As := []) (rest := []) ⟨hx, hb, hml, hown, hts⟩ (c_X11_next l D K F hMo H.size o1.2 o3 go3) (cwV 0 hts (gcV_X11_next (mB18 _ (List.mem_of_getElem? (i := 19) rfl))) rfl rfl rfl hdV_X11_next ⟨Nat.le_of_ble_eq_true rfl, Nat.le_of_ble_eq_true rfl⟩) hK hP hD hS hA (va_recv hK hP (ci := 10) (q0 := 0) rfl o_Mo) rfl hl.1 rfl (Nat.le_of_ble_eq_true rfl) dX11_placePassed_13 ⟨Nat.zero_le _, Nat.zero_le _⟩ (fun H locs hP hD hS => ?_)
      have hP : va_P D vwCl (wMo K hMo o3) H := hP
      have hD : va_D A (wMo K hMo o3) := hD
      refine lv_iload_n hx hb dX11_placePassed_16 rfl (lv_at hl 0 rfl) ?_
      have e9 := Option.some.inj hf
      rw [hQ]
      exact W.iret (v := o1.1) hx hb hr (fun t ht hW => ⟨⟨o1.1, o3, rfl, ⟨pr1 e9, pr2 e9⟩, ⟨by rw [ht]; exact hP, va_K.moved hW.alike hK, hD⟩⟩, hS.F ht⟩) hS.2.2 dX11_placePassed_17
  rw [hHe] at hgo
  exact hgo

theorem gcS_X11_in {T0 : Cond} {own : String} {i : Nat} (h : Cond.methodLink own i yX11_in ∈ wsL_law) : GoodIn (T0 :: wsL_law) (va_wsS own i yX11_in wz_X11_in) := gS h (mB18 _ (List.mem_of_getElem? (i := 13) rfl)) (mB1 _ (List.mem_of_getElem? (i := 5) rfl)) (mB18 _ (List.mem_of_getElem? (i := 14) rfl))
theorem hdS_X11_in : yX11_in.cls ≠ "java/lang/invoke/MethodHandle" ∧ yX11_in.cls ≠ "java/lang/invoke/VarHandle" ∧ (parseMethodDescriptor yX11_in.desc).map (fun d => d.parameters.length) = some 3 := by decide +kernel
def wz_X11_numberHere : List Cond := .code yX11_numberHere cX11_numberHere 3 (some .int) :: wsL_law
abbrev r_X11_numberHere : Room := { frames := 1, cells := 0, slots := 0, locals := 22 }
set_option maxHeartbeats 4000000 in
set_option maxRecDepth 100000 in
theorem c_X11_numberHere (l : Launch) (D : va_G) (K : Nat → ClassId) (F : Nat) (hMo : Nat → Nat) (sz : Nat) (sMo : MS) (p1 : Int32) (p2 : Int32) (res : Int32 × MS) (hf : f_X11_numberHere F p1 p2 sMo = some res) : Met l yX11_numberHere wz_X11_numberHere r_X11_numberHere (va_Pc [.ref (hMo 99), .int p1, .int p2] (PW D K (wMo K hMo sMo) sz)) (va_Qi (fun r u => r = res.1 ∧ u = res.2) (fun u t => BW D K (va_A (wMo K hMo sMo) sz) (wMo K hMo u) t) (va_A (wMo K hMo sMo) sz)) 0 0 (va_A (wMo K hMo sMo) sz) := by
  refine Met.ofW (cc := cX11_numberHere) (maxL := 3) (ret := (some .int)) (by decide) rfl ?_
  intro p e s m args below meth c s₁ B hml hv
  obtain ⟨hargs, hsz, hP, hK, hD0⟩ := hv
  have hx := B.exec
  have hb := B.bytes
  have hr := B.returns
  have hts := atoms_spec (ws := wz_X11_numberHere) B.pre
  have htl : ∀ w ∈ wsL_law, w.before args s = true := fun w h => hts w (List.mem_cons_of_mem _ h)
  have hown : s.vm.findClass RX11 = some m.cls := findClass_of_methodNamed B.named
  have hlocks := B.notSynchronized
  subst hsz
  have hD := hD0.self (sz := s.heap.size)
  generalize hAe : va_A (wMo K hMo sMo) s.heap.size = A at hD ⊢
  have hA : ∀ q : Nat, s.heap.size ≤ q → A q := fun q h => by rw [← hAe]; exact Or.inr h
  have hS : va_S A s.heap s.heap [] := va_S.rf
  have iX11 : ∀ w ∈ wsX110, w ∈ wz_X11_numberHere := fun w h => List.mem_cons_of_mem _ (inlX11 w h)
  suffices hgo : ∀ Q : State → Prop, Q = MQ below (va_Qi (fun r u => r = res.1 ∧ u = res.2) (fun u t => BW D K A (wMo K hMo u) t) A) args s 0 0 A → W p l e (headSpec wz_X11_numberHere r_X11_numberHere).room s m args below meth c s.heap [] 0 0 Q (entryFrame m args 3) from hgo _ rfl
  intro Q hQ
  have w50 : ∀ (sMo : MS), ∀ (H : Heap) (locs : List Loc) (ls : Array Slot), f_X11_numberHere_50 F p1 p2 sMo = some res → va_P D vwCl (wMo K hMo sMo) H → va_D A (wMo K hMo sMo) → va_S A s.heap H locs → lv_has ls 3 [(0, .ref (hMo 99)), (1, .int p1)] → W p l e (headSpec wz_X11_numberHere r_X11_numberHere).room s m args below meth c H locs 0 0 Q (F0 m 50 ls []) := by
    intro sMo H locs ls hf hP hD hS hl
    unfold f_X11_numberHere_50 at hf
    refine lv_aload_n hx hb dX11_numberHere_50 rfl (lv_at hl 0 rfl) ?_
    refine va_get (D := D) (ci := 10) (v := .int (sMo.1 13)) (C := RX11) (T := TX11) (N := 41) hx hb hts iX11 hown hK hP 0 o_Mo rfl 13 (by decide) (htl _ (mB17 _ (List.mem_of_getElem? (i := 23) rfl))) (fun _ h9 => h9) rfl dX11_numberHere_51 ?_
    refine lv_if_eq (tgt := 61) hx hb dX11_numberHere_54 (by decide) (fun c7 => ?_) (fun c7 => ?_)
    · have hf := it_t hf c7
      refine lv_aload_n hx hb dX11_numberHere_61 rfl (lv_at hl 0 rfl) ?_
      refine va_get (D := D) (ci := 10) (v := .int (sMo.1 7)) (C := RX11) (T := TX11) (N := 41) hx hb hts iX11 hown hK hP 0 o_Mo rfl 7 (by decide) (htl _ (mB19 _ (List.mem_of_getElem? (i := 0) rfl))) (fun _ h9 => h9) rfl dX11_numberHere_62 ?_
      have e9 := Option.some.inj hf
      rw [hQ]
      exact W.iret (v := (sMo.1 7)) hx hb hr (fun t ht hW => ⟨⟨(sMo.1 7), sMo, rfl, ⟨pr1 e9, pr2 e9⟩, ⟨by rw [ht]; exact hP, va_K.moved hW.alike hK, hD⟩⟩, hS.F ht⟩) hS.2.2 dX11_numberHere_65
    · have hf := it_f hf c7
      refine lv_iload_n hx hb dX11_numberHere_57 rfl (lv_at hl 1 rfl) ?_
      refine lv_goto (tgt := 65) hx hb dX11_numberHere_58 (by decide) ?_
      have e9 := Option.some.inj hf
      rw [hQ]
      exact W.iret (v := p1) hx hb hr (fun t ht hW => ⟨⟨p1, sMo, rfl, ⟨pr1 e9, pr2 e9⟩, ⟨by rw [ht]; exact hP, va_K.moved hW.alike hK, hD⟩⟩, hS.F ht⟩) hS.2.2 dX11_numberHere_65
  have hen : entryFrame m args 3 = entryFrame m (([.ref (hMo 99), .int p1, .int p2] : List Value).toArray) 3 := by rw [hargs]
  have hl := lv_entry ([.ref (hMo 99), .int p1, .int p2]) (n := 3) (Nat.le_of_ble_eq_true rfl)
  rw [hen, lg_entry_eq]
  generalize (lg_sl ([.ref (hMo 99), .int p1, .int p2]) ++ List.replicate (3 - (lg_sl ([.ref (hMo 99), .int p1, .int p2])).length) Slot.unset).toArray = ls at hl ⊢
  have hl : lv_has ls 3 [(0, .ref (hMo 99)), (1, .int p1), (2, .int p2)] := hl
  unfold f_X11_numberHere at hf
  obtain ⟨H, hHe⟩ : ∃ z, z = s.heap := ⟨_, rfl⟩
  obtain ⟨locs, hLe⟩ : ∃ z : List Loc, z = [] := ⟨_, rfl⟩
  rw [← hLe]
  have hS : va_S A s.heap H locs := by rw [hHe, hLe]; exact hS
  have hP : va_P D vwCl (wMo K hMo sMo) H := by rw [hHe]; exact hP
  have hgo : W p l e (headSpec wz_X11_numberHere r_X11_numberHere).room s m args below meth c H locs 0 0 Q (F0 m 0 ls []) := by
    refine lv_aload_n hx hb dX11_numberHere_0 rfl (lv_at hl 0 rfl) ?_
    refine va_get (D := D) (ci := 10) (v := .int (sMo.1 13)) (C := RX11) (T := TX11) (N := 41) hx hb hts iX11 hown hK hP 0 o_Mo rfl 13 (by decide) (htl _ (mB17 _ (List.mem_of_getElem? (i := 23) rfl))) (fun _ h9 => h9) rfl dX11_numberHere_1 ?_
    refine lv_if_eq (tgt := 9) hx hb dX11_numberHere_4 (by decide) (fun c1 => ?_) (fun c1 => ?_)
    · have hf := it_t hf c1
      refine lv_aload_n hx hb dX11_numberHere_9 rfl (lv_at hl 0 rfl) ?_
      refine va_get (D := D) (ci := 10) (v := .int (sMo.1 6)) (C := RX11) (T := TX11) (N := 41) hx hb hts iX11 hown hK hP 0 o_Mo rfl 6 (by decide) (htl _ (mB18 _ (List.mem_of_getElem? (i := 2) rfl))) (fun _ h9 => h9) rfl dX11_numberHere_10 ?_
      refine lv_iconst (v := (3 : Int32)) hx hb dX11_numberHere_13 (by decide) ?_
      refine lv_icmp_eq (tgt := 29) hx hb dX11_numberHere_14 (by decide) (fun c2 => ?_) (fun c2 => ?_)
      · have hf := it_t hf c2
        refine lv_aload_n hx hb dX11_numberHere_29 rfl (lv_at hl 0 rfl) ?_
        refine va_get (D := D) (ci := 10) (v := .int (sMo.1 7)) (C := RX11) (T := TX11) (N := 41) hx hb hts iX11 hown hK hP 0 o_Mo rfl 7 (by decide) (htl _ (mB19 _ (List.mem_of_getElem? (i := 0) rfl))) (fun _ h9 => h9) rfl dX11_numberHere_30 ?_
        refine lv_iload_n hx hb dX11_numberHere_33 rfl (lv_at hl 1 rfl) ?_
        refine lv_iload_n hx hb dX11_numberHere_34 rfl (lv_at hl 2 rfl) ?_
        obtain ⟨o3, go3, hf⟩ := bd_s hf
        refine ro_Si (As := [.int (sMo.1 7), .int p1, .int p2]) (rest := []) ⟨hx, hb, hml, hown, hts⟩ (c_X11_in l D K F (sMo.1 7) p1 p2 o3 go3) (va_cwS 3 hts (gcS_X11_in (mB18 _ (List.mem_of_getElem? (i := 12) rfl))) rfl rfl rfl hdS_X11_in ⟨Nat.le_of_ble_eq_true rfl, Nat.le_of_ble_eq_true rfl⟩) hK hP hS va_Pnil rfl hl.1 rfl (Nat.le_of_ble_eq_true rfl) dX11_numberHere_35 ⟨Nat.zero_le _, Nat.zero_le _⟩ (fun H locs hP hS => ?_)
        refine lv_if_ne (tgt := 50) hx hb dX11_numberHere_38 (by decide) (fun c4 => ?_) (fun c4 => ?_)
        · have hf := it_f hf c4
          exact w50 sMo H locs ls hf hP hD hS (lv_sub hl [0, 1] rfl)
        · have hf := it_t hf c4
          refine lv_aload_n hx hb dX11_numberHere_41 rfl (lv_at hl 0 rfl) ?_
          refine lv_iconst (v := (4 : Int32)) hx hb dX11_numberHere_42 (by decide) ?_
          refine lv_aload_n hx hb dX11_numberHere_43 rfl (lv_at hl 0 rfl) ?_
          refine va_get (D := D) (ci := 10) (v := .int (sMo.1 4)) (C := RX11) (T := TX11) (N := 41) hx hb hts iX11 hown hK hP 0 o_Mo rfl 4 (by decide) (htl _ (mB18 _ (List.mem_of_getElem? (i := 3) rfl))) (fun _ h9 => h9) rfl dX11_numberHere_44 ?_
          obtain ⟨o5, go5, hf⟩ := bd_s hf
          refine rs_Vv (As := [.int (4 : Int32), .int (sMo.1 4)]) (rest := []) ⟨hx, hb, hml, hown, hts⟩ (c_X11_wrong l D K F hMo H.size sMo (4 : Int32) (sMo.1 4) o5 go5) (cwV 2 hts (gcV_X11_wrong (mB20 _ (List.mem_of_getElem? (i := 1) rfl))) rfl rfl rfl hdV_X11_wrong ⟨Nat.le_of_ble_eq_true rfl, Nat.le_of_ble_eq_true rfl⟩) hK hP hD hS hA (va_recv hK hP (ci := 10) (q0 := 0) rfl o_Mo) rfl hl.1 rfl (Nat.le_of_ble_eq_true rfl) dX11_numberHere_47 ⟨Nat.zero_le _, Nat.zero_le _⟩ (fun H locs hP hD hS => ?_)
          have hP : va_P D vwCl (wMo K hMo o5) H := hP
          have hD : va_D A (wMo K hMo o5) := hD
          exact w50 o5 H locs ls hf hP hD hS (lv_sub hl [0, 1] rfl)
      · have hf := it_f hf c2
        refine lv_aload_n hx hb dX11_numberHere_17 rfl (lv_at hl 0 rfl) ?_
        refine lv_iconst (v := (1 : Int32)) hx hb dX11_numberHere_18 (by decide) ?_
        refine lv_aload_n hx hb dX11_numberHere_19 rfl (lv_at hl 0 rfl) ?_
        refine va_get (D := D) (ci := 10) (v := .int (sMo.1 4)) (C := RX11) (T := TX11) (N := 41) hx hb hts iX11 hown hK hP 0 o_Mo rfl 4 (by decide) (htl _ (mB18 _ (List.mem_of_getElem? (i := 3) rfl))) (fun _ h9 => h9) rfl dX11_numberHere_20 ?_
        obtain ⟨o6, go6, hf⟩ := bd_s hf
        refine rs_Vv (As := [.int (1 : Int32), .int (sMo.1 4)]) (rest := []) ⟨hx, hb, hml, hown, hts⟩ (c_X11_wrong l D K F hMo H.size sMo (1 : Int32) (sMo.1 4) o6 go6) (cwV 2 hts (gcV_X11_wrong (mB20 _ (List.mem_of_getElem? (i := 1) rfl))) rfl rfl rfl hdV_X11_wrong ⟨Nat.le_of_ble_eq_true rfl, Nat.le_of_ble_eq_true rfl⟩) hK hP hD hS hA (va_recv hK hP (ci := 10) (q0 := 0) rfl o_Mo) rfl hl.1 rfl (Nat.le_of_ble_eq_true rfl) dX11_numberHere_23 ⟨Nat.zero_le _, Nat.zero_le _⟩ (fun H locs hP hD hS => ?_)
        have hP : va_P D vwCl (wMo K hMo o6) H := hP
        have hD : va_D A (wMo K hMo o6) := hD
        refine lv_goto (tgt := 50) hx hb dX11_numberHere_26 (by decide) ?_
        exact w50 o6 H locs ls hf hP hD hS (lv_sub hl [0, 1] rfl)
    · have hf := it_f hf c1
      refine lv_iload_n hx hb dX11_numberHere_7 rfl (lv_at hl 1 rfl) ?_
      have e9 := Option.some.inj hf
      rw [hQ]
      exact W.iret (v := p1) hx hb hr (fun t ht hW => ⟨⟨p1, sMo, rfl, ⟨pr1 e9, pr2 e9⟩, ⟨by rw [ht]; exact hP, va_K.moved hW.alike hK, hD⟩⟩, hS.F ht⟩) hS.2.2 dX11_numberHere_8
  rw [hHe] at hgo
  exact hgo

theorem gcV_X11_numberHere {T0 : Cond} {own : String} {i : Nat} (h : Cond.methodLink own i yX11_numberHere ∈ wsL_law) : GoodIn (T0 :: wsL_law) (wsV own i RX11 yX11_numberHere wz_X11_numberHere) := gV h (mB20 _ (List.mem_of_getElem? (i := 22) rfl)) (mB20 _ (List.mem_of_getElem? (i := 23) rfl)) (mB1 _ (List.mem_of_getElem? (i := 5) rfl)) (mB21 _ (List.mem_of_getElem? (i := 0) rfl))
theorem hdV_X11_numberHere : yX11_numberHere.cls = RX11 ∧ yX11_numberHere.cls ≠ "java/lang/invoke/MethodHandle" ∧ yX11_numberHere.cls ≠ "java/lang/invoke/VarHandle" ∧ (parseMethodDescriptor yX11_numberHere.desc).map (fun d => d.parameters.length) = some 2 := by decide +kernel
def wz_X11_number : List Cond := .code yX11_number cX11_number 4 (some .int) :: wsL_law
abbrev r_X11_number : Room := { frames := 2, cells := 0, slots := 0, locals := 44 }
set_option maxHeartbeats 4000000 in
set_option maxRecDepth 100000 in
theorem c_X11_number (l : Launch) (D : va_G) (K : Nat → ClassId) (F : Nat) (hMo : Nat → Nat) (sz : Nat) (sMo : MS) (p1 : Int32) (p2 : Int32) (res : Int32 × MS) (hf : f_X11_number F p1 p2 sMo = some res) : Met l yX11_number wz_X11_number r_X11_number (va_Pc [.ref (hMo 99), .int p1, .int p2] (PW D K (wMo K hMo sMo) sz)) (va_Qi (fun r u => r = res.1 ∧ u = res.2) (fun u t => BW D K (va_A (wMo K hMo sMo) sz) (wMo K hMo u) t) (va_A (wMo K hMo sMo) sz)) 0 0 (va_A (wMo K hMo sMo) sz) := by
  refine Met.ofW (cc := cX11_number) (maxL := 4) (ret := (some .int)) (by decide) rfl ?_
  intro p e s m args below meth c s₁ B hml hv
  obtain ⟨hargs, hsz, hP, hK, hD0⟩ := hv
  have hx := B.exec
  have hb := B.bytes
  have hr := B.returns
  have hts := atoms_spec (ws := wz_X11_number) B.pre
  have htl : ∀ w ∈ wsL_law, w.before args s = true := fun w h => hts w (List.mem_cons_of_mem _ h)
  have hown : s.vm.findClass RX11 = some m.cls := findClass_of_methodNamed B.named
  have hlocks := B.notSynchronized
  subst hsz
  have hD := hD0.self (sz := s.heap.size)
  generalize hAe : va_A (wMo K hMo sMo) s.heap.size = A at hD ⊢
  have hA : ∀ q : Nat, s.heap.size ≤ q → A q := fun q h => by rw [← hAe]; exact Or.inr h
  have hS : va_S A s.heap s.heap [] := va_S.rf
  have iX11 : ∀ w ∈ wsX110, w ∈ wz_X11_number := fun w h => List.mem_cons_of_mem _ (inlX11 w h)
  suffices hgo : ∀ Q : State → Prop, Q = MQ below (va_Qi (fun r u => r = res.1 ∧ u = res.2) (fun u t => BW D K A (wMo K hMo u) t) A) args s 0 0 A → W p l e (headSpec wz_X11_number r_X11_number).room s m args below meth c s.heap [] 0 0 Q (entryFrame m args 4) from hgo _ rfl
  intro Q hQ
  have hen : entryFrame m args 4 = entryFrame m (([.ref (hMo 99), .int p1, .int p2] : List Value).toArray) 4 := by rw [hargs]
  have hl := lv_entry ([.ref (hMo 99), .int p1, .int p2]) (n := 4) (Nat.le_of_ble_eq_true rfl)
  rw [hen, lg_entry_eq]
  generalize (lg_sl ([.ref (hMo 99), .int p1, .int p2]) ++ List.replicate (4 - (lg_sl ([.ref (hMo 99), .int p1, .int p2])).length) Slot.unset).toArray = ls at hl ⊢
  have hl : lv_has ls 4 [(0, .ref (hMo 99)), (1, .int p1), (2, .int p2)] := hl
  unfold f_X11_number at hf
  obtain ⟨H, hHe⟩ : ∃ z, z = s.heap := ⟨_, rfl⟩
  obtain ⟨locs, hLe⟩ : ∃ z : List Loc, z = [] := ⟨_, rfl⟩
  rw [← hLe]
  have hS : va_S A s.heap H locs := by rw [hHe, hLe]; exact hS
  have hP : va_P D vwCl (wMo K hMo sMo) H := by rw [hHe]; exact hP
  have hgo : W p l e (headSpec wz_X11_number r_X11_number).room s m args below meth c H locs 0 0 Q (F0 m 0 ls []) := by
    refine lv_aload_n hx hb dX11_number_0 rfl (lv_at hl 0 rfl) ?_
    refine lv_iload_n hx hb dX11_number_1 rfl (lv_at hl 1 rfl) ?_
    refine lv_iload_n hx hb dX11_number_2 rfl (lv_at hl 2 rfl) ?_
    obtain ⟨o1, go1, hf⟩ := bd_s hf
    refine rs_Vi (As := [.int p1, .int p2]) (rest := []) ⟨hx, hb, hml, hown, hts⟩ (c_X11_numberHere l D K F hMo H.size sMo p1 p2 o1 go1) (cwV 2 hts (gcV_X11_numberHere (mB20 _ (List.mem_of_getElem? (i := 21) rfl))) rfl rfl rfl hdV_X11_numberHere ⟨Nat.le_of_ble_eq_true rfl, Nat.le_of_ble_eq_true rfl⟩) hK hP hD hS hA (va_recv hK hP (ci := 10) (q0 := 0) rfl o_Mo) rfl hl.1 rfl (Nat.le_of_ble_eq_true rfl) dX11_number_3 ⟨Nat.zero_le _, Nat.zero_le _⟩ (fun H locs hP hD hS => ?_)
    have hP : va_P D vwCl (wMo K hMo o1.2) H := hP
    have hD : va_D A (wMo K hMo o1.2) := hD
    refine lv_istore_n (lv' := [(3, .int o1.1), (0, .ref (hMo 99)), (1, .int p1), (2, .int p2)]) hx hb dX11_number_6 rfl hl (by decide) rfl (fun ls hl => ?_)
    refine lv_aload_n hx hb dX11_number_7 rfl (lv_at hl 1 rfl) ?_
    refine va_get (D := D) (ci := 10) (v := .int (o1.2.1 13)) (C := RX11) (T := TX11) (N := 41) hx hb hts iX11 hown hK hP 0 o_Mo rfl 13 (by decide) (htl _ (mB17 _ (List.mem_of_getElem? (i := 23) rfl))) (fun _ h9 => h9) rfl dX11_number_8 ?_
    refine lv_if_ne (tgt := 18) hx hb dX11_number_11 (by decide) (fun c2 => ?_) (fun c2 => ?_)
    · have hf := it_f hf c2
      refine lv_iload_n hx hb dX11_number_18 rfl (lv_at hl 0 rfl) ?_
      have e9 := Option.some.inj hf
      rw [hQ]
      exact W.iret (v := o1.1) hx hb hr (fun t ht hW => ⟨⟨o1.1, o1.2, rfl, ⟨pr1 e9, pr2 e9⟩, ⟨by rw [ht]; exact hP, va_K.moved hW.alike hK, hD⟩⟩, hS.F ht⟩) hS.2.2 dX11_number_19
    · have hf := it_t hf c2
      refine lv_aload_n hx hb dX11_number_14 rfl (lv_at hl 1 rfl) ?_
      obtain ⟨o3, go3, hf⟩ := bd_s hf
      refine rs_Vv (As := []) (rest := []) ⟨hx, hb, hml, hown, hts⟩ (c_X11_next l D K F hMo H.size o1.2 o3 go3) (cwV 0 hts (gcV_X11_next (mB18 _ (List.mem_of_getElem? (i := 19) rfl))) rfl rfl rfl hdV_X11_next ⟨Nat.le_of_ble_eq_true rfl, Nat.le_of_ble_eq_true rfl⟩) hK hP hD hS hA (va_recv hK hP (ci := 10) (q0 := 0) rfl o_Mo) rfl hl.1 rfl (Nat.le_of_ble_eq_true rfl) dX11_number_15 ⟨Nat.zero_le _, Nat.zero_le _⟩ (fun H locs hP hD hS => ?_)
      have hP : va_P D vwCl (wMo K hMo o3) H := hP
      have hD : va_D A (wMo K hMo o3) := hD
      refine lv_iload_n hx hb dX11_number_18 rfl (lv_at hl 0 rfl) ?_
      have e9 := Option.some.inj hf
      rw [hQ]
      exact W.iret (v := o1.1) hx hb hr (fun t ht hW => ⟨⟨o1.1, o3, rfl, ⟨pr1 e9, pr2 e9⟩, ⟨by rw [ht]; exact hP, va_K.moved hW.alike hK, hD⟩⟩, hS.F ht⟩) hS.2.2 dX11_number_19
  rw [hHe] at hgo
  exact hgo

theorem gcV_X11_must {T0 : Cond} {own : String} {i : Nat} (h : Cond.methodLink own i yX11_must ∈ wsL_law) : GoodIn (T0 :: wsL_law) (wsV own i RX11 yX11_must wz_X11_must) := gV h (mB20 _ (List.mem_of_getElem? (i := 10) rfl)) (mB20 _ (List.mem_of_getElem? (i := 11) rfl)) (mB1 _ (List.mem_of_getElem? (i := 5) rfl)) (mB20 _ (List.mem_of_getElem? (i := 12) rfl))
theorem hdV_X11_must : yX11_must.cls = RX11 ∧ yX11_must.cls ≠ "java/lang/invoke/MethodHandle" ∧ yX11_must.cls ≠ "java/lang/invoke/VarHandle" ∧ (parseMethodDescriptor yX11_must.desc).map (fun d => d.parameters.length) = some 1 := by decide +kernel
theorem gcV_X11_number {T0 : Cond} {own : String} {i : Nat} (h : Cond.methodLink own i yX11_number ∈ wsL_law) : GoodIn (T0 :: wsL_law) (wsV own i RX11 yX11_number wz_X11_number) := gV h (mB20 _ (List.mem_of_getElem? (i := 18) rfl)) (mB20 _ (List.mem_of_getElem? (i := 19) rfl)) (mB1 _ (List.mem_of_getElem? (i := 5) rfl)) (mB20 _ (List.mem_of_getElem? (i := 20) rfl))
theorem hdV_X11_number : yX11_number.cls = RX11 ∧ yX11_number.cls ≠ "java/lang/invoke/MethodHandle" ∧ yX11_number.cls ≠ "java/lang/invoke/VarHandle" ∧ (parseMethodDescriptor yX11_number.desc).map (fun d => d.parameters.length) = some 2 := by decide +kernel
def wz_X11_after : List Cond := .code yX11_after cX11_after 4 (some .int) :: wsL_law
abbrev r_X11_after : Room := { frames := 7, cells := 0, slots := 0, locals := 150 }
set_option maxHeartbeats 4000000 in
set_option maxRecDepth 100000 in
theorem c_X11_after (l : Launch) (D : va_G) (K : Nat → ClassId) (F : Nat) (adK adV : Nat → Nat) (tF : Nat) (hMo : Nat → Nat) (sz : Nat) (sMo : MS) (p1 : Nat) (p2 : Int32) (p3 : Int32) (res : Int32 × MS) (hf : f_X11_after F p2 p3 p1 sMo = some res) : Met l yX11_after wz_X11_after r_X11_after (va_Pc [.ref (hMo 99), .ref (adK p1), .int p2, .int p3] (PWz D K adK adV tF (wMo K hMo sMo) sz)) (va_Qi (fun r u => r = res.1 ∧ u = res.2) (fun u t => BW D K (va_A (wMo K hMo sMo) sz) (wMo K hMo u) t) (va_A (wMo K hMo sMo) sz)) 0 0 (va_A (wMo K hMo sMo) sz) := by
  refine Met.ofW (cc := cX11_after) (maxL := 4) (ret := (some .int)) (by decide) rfl ?_
  intro p e s m args below meth c s₁ B hml hv
  obtain ⟨hargs, ⟨hsz, hP, hK, hD0⟩, hZ⟩ := hv
  have hx := B.exec
  have hb := B.bytes
  have hr := B.returns
  have hts := atoms_spec (ws := wz_X11_after) B.pre
  have htl : ∀ w ∈ wsL_law, w.before args s = true := fun w h => hts w (List.mem_cons_of_mem _ h)
  have hown : s.vm.findClass RX11 = some m.cls := findClass_of_methodNamed B.named
  have hlocks := B.notSynchronized
  subst hsz
  have hD := hD0.self (sz := s.heap.size)
  generalize hAe : va_A (wMo K hMo sMo) s.heap.size = A at hD hZ ⊢
  have hA : ∀ q : Nat, s.heap.size ≤ q → A q := fun q h => by rw [← hAe]; exact Or.inr h
  have hS : va_S A s.heap s.heap [] := va_S.rf
  suffices hgo : ∀ Q : State → Prop, Q = MQ below (va_Qi (fun r u => r = res.1 ∧ u = res.2) (fun u t => BW D K A (wMo K hMo u) t) A) args s 0 0 A → W p l e (headSpec wz_X11_after r_X11_after).room s m args below meth c s.heap [] 0 0 Q (entryFrame m args 4) from hgo _ rfl
  intro Q hQ
  have hen : entryFrame m args 4 = entryFrame m (([.ref (hMo 99), .ref (adK p1), .int p2, .int p3] : List Value).toArray) 4 := by rw [hargs]
  have hl := lv_entry ([.ref (hMo 99), .ref (adK p1), .int p2, .int p3]) (n := 4) (Nat.le_of_ble_eq_true rfl)
  rw [hen, lg_entry_eq]
  generalize (lg_sl ([.ref (hMo 99), .ref (adK p1), .int p2, .int p3]) ++ List.replicate (4 - (lg_sl ([.ref (hMo 99), .ref (adK p1), .int p2, .int p3])).length) Slot.unset).toArray = ls at hl ⊢
  have hl : lv_has ls 4 [(0, .ref (hMo 99)), (1, .ref (adK p1)), (2, .int p2), (3, .int p3)] := hl
  unfold f_X11_after at hf
  obtain ⟨H, hHe⟩ : ∃ z, z = s.heap := ⟨_, rfl⟩
  obtain ⟨locs, hLe⟩ : ∃ z : List Loc, z = [] := ⟨_, rfl⟩
  rw [← hLe]
  have hS : va_S A s.heap H locs := by rw [hHe, hLe]; exact hS
  have hP : va_P D vwCl (wMo K hMo sMo) H := by rw [hHe]; exact hP
  have hgo : W p l e (headSpec wz_X11_after r_X11_after).room s m args below meth c H locs 0 0 Q (F0 m 0 ls []) := by
    refine lv_aload_n hx hb dX11_after_0 rfl (lv_at hl 0 rfl) ?_
    refine lv_aload_n hx hb dX11_after_1 rfl (lv_at hl 1 rfl) ?_
    obtain ⟨o1, go1, hf⟩ := bd_s hf
    refine rs_Vvz (As := [.ref (adK p1)]) (rest := []) ⟨hx, hb, hml, hown, hts⟩ (c_X11_must l D K F adK adV tF hMo H.size sMo p1 o1 go1) (cwV 1 hts (gcV_X11_must (mB20 _ (List.mem_of_getElem? (i := 9) rfl))) rfl rfl rfl hdV_X11_must ⟨Nat.le_of_ble_eq_true rfl, Nat.le_of_ble_eq_true rfl⟩) hK hP hD hS hA hZ (va_recv hK hP (ci := 10) (q0 := 0) rfl o_Mo) rfl hl.1 rfl (Nat.le_of_ble_eq_true rfl) dX11_after_2 ⟨Nat.zero_le _, Nat.zero_le _⟩ (fun H locs hP hD hS => ?_)
    have hP : va_P D vwCl (wMo K hMo o1) H := hP
    have hD : va_D A (wMo K hMo o1) := hD
    refine lv_aload_n hx hb dX11_after_5 rfl (lv_at hl 0 rfl) ?_
    refine lv_iload_n hx hb dX11_after_6 rfl (lv_at hl 2 rfl) ?_
    refine lv_iload_n hx hb dX11_after_7 rfl (lv_at hl 3 rfl) ?_
    obtain ⟨o2, go2, hf⟩ := bd_s hf
    refine rs_Vi (As := [.int p2, .int p3]) (rest := []) ⟨hx, hb, hml, hown, hts⟩ (c_X11_number l D K F hMo H.size o1 p2 p3 o2 go2) (cwV 2 hts (gcV_X11_number (mB20 _ (List.mem_of_getElem? (i := 17) rfl))) rfl rfl rfl hdV_X11_number ⟨Nat.le_of_ble_eq_true rfl, Nat.le_of_ble_eq_true rfl⟩) hK hP hD hS hA (va_recv hK hP (ci := 10) (q0 := 0) rfl o_Mo) rfl hl.1 rfl (Nat.le_of_ble_eq_true rfl) dX11_after_8 ⟨Nat.zero_le _, Nat.zero_le _⟩ (fun H locs hP hD hS => ?_)
    have hP : va_P D vwCl (wMo K hMo o2.2) H := hP
    have hD : va_D A (wMo K hMo o2.2) := hD
    have e9 := Option.some.inj hf
    rw [hQ]
    exact W.iret (v := o2.1) hx hb hr (fun t ht hW => ⟨⟨o2.1, o2.2, rfl, ⟨pr1 e9, pr2 e9⟩, ⟨by rw [ht]; exact hP, va_K.moved hW.alike hK, hD⟩⟩, hS.F ht⟩) hS.2.2 dX11_after_11
  rw [hHe] at hgo
  exact hgo

def wz_X11_comma : List Cond := .code yX11_comma cX11_comma 1 (some .boolean) :: wsL_law
abbrev r_X11_comma : Room := { frames := 2, cells := 0, slots := 0, locals := 44 }
set_option maxHeartbeats 4000000 in
set_option maxRecDepth 100000 in
theorem c_X11_comma (l : Launch) (D : va_G) (K : Nat → ClassId) (F : Nat) (hMo : Nat → Nat) (sz : Nat) (sMo : MS) (res : Int32 × MS) (hf : f_X11_comma F sMo = some res) : Met l yX11_comma wz_X11_comma r_X11_comma (va_Pc [.ref (hMo 99)] (PW D K (wMo K hMo sMo) sz)) (va_Qi (fun r u => r = res.1 ∧ u = res.2) (fun u t => BW D K (va_A (wMo K hMo sMo) sz) (wMo K hMo u) t) (va_A (wMo K hMo sMo) sz)) 0 0 (va_A (wMo K hMo sMo) sz) := by
  refine Met.ofW (cc := cX11_comma) (maxL := 1) (ret := (some .boolean)) (by decide) rfl ?_
  intro p e s m args below meth c s₁ B hml hv
  obtain ⟨hargs, hsz, hP, hK, hD0⟩ := hv
  have hx := B.exec
  have hb := B.bytes
  have hr := B.returns
  have hts := atoms_spec (ws := wz_X11_comma) B.pre
  have htl : ∀ w ∈ wsL_law, w.before args s = true := fun w h => hts w (List.mem_cons_of_mem _ h)
  have hown : s.vm.findClass RX11 = some m.cls := findClass_of_methodNamed B.named
  have hlocks := B.notSynchronized
  subst hsz
  have hD := hD0.self (sz := s.heap.size)
  generalize hAe : va_A (wMo K hMo sMo) s.heap.size = A at hD ⊢
  have hA : ∀ q : Nat, s.heap.size ≤ q → A q := fun q h => by rw [← hAe]; exact Or.inr h
  have hS : va_S A s.heap s.heap [] := va_S.rf
  have iX11 : ∀ w ∈ wsX110, w ∈ wz_X11_comma := fun w h => List.mem_cons_of_mem _ (inlX11 w h)
  suffices hgo : ∀ Q : State → Prop, Q = MQ below (va_Qi (fun r u => r = res.1 ∧ u = res.2) (fun u t => BW D K A (wMo K hMo u) t) A) args s 0 0 A → W p l e (headSpec wz_X11_comma r_X11_comma).room s m args below meth c s.heap [] 0 0 Q (entryFrame m args 1) from hgo _ rfl
  intro Q hQ
  have hen : entryFrame m args 1 = entryFrame m (([.ref (hMo 99)] : List Value).toArray) 1 := by rw [hargs]
  have hl := lv_entry ([.ref (hMo 99)]) (n := 1) (Nat.le_of_ble_eq_true rfl)
  rw [hen, lg_entry_eq]
  generalize (lg_sl ([.ref (hMo 99)]) ++ List.replicate (1 - (lg_sl ([.ref (hMo 99)])).length) Slot.unset).toArray = ls at hl ⊢
  have hl : lv_has ls 1 [(0, .ref (hMo 99))] := hl
  unfold f_X11_comma at hf
  obtain ⟨H, hHe⟩ : ∃ z, z = s.heap := ⟨_, rfl⟩
  obtain ⟨locs, hLe⟩ : ∃ z : List Loc, z = [] := ⟨_, rfl⟩
  rw [← hLe]
  have hS : va_S A s.heap H locs := by rw [hHe, hLe]; exact hS
  have hP : va_P D vwCl (wMo K hMo sMo) H := by rw [hHe]; exact hP
  have hgo : W p l e (headSpec wz_X11_comma r_X11_comma).room s m args below meth c H locs 0 0 Q (F0 m 0 ls []) := by
    refine lv_aload_n hx hb dX11_comma_0 rfl (lv_at hl 0 rfl) ?_
    refine va_get (D := D) (ci := 10) (v := .int (sMo.1 13)) (C := RX11) (T := TX11) (N := 41) hx hb hts iX11 hown hK hP 0 o_Mo rfl 13 (by decide) (htl _ (mB17 _ (List.mem_of_getElem? (i := 23) rfl))) (fun _ h9 => h9) rfl dX11_comma_1 ?_
    refine lv_if_ne (tgt := 16) hx hb dX11_comma_4 (by decide) (fun c1 => ?_) (fun c1 => ?_)
    · have hf := it_f hf c1
      refine lv_iconst (v := (0 : Int32)) hx hb dX11_comma_16 (by decide) ?_
      have e9 := Option.some.inj hf
      rw [hQ]
      exact W.zret (v := (0 : Int32)) hx hb hr rfl (fun t ht hW => ⟨⟨(0 : Int32), sMo, rfl, ⟨pr1 e9, pr2 e9⟩, ⟨by rw [ht]; exact hP, va_K.moved hW.alike hK, hD⟩⟩, hS.F ht⟩) hS.2.2 dX11_comma_17
    · have hf := it_t hf c1
      refine lv_aload_n hx hb dX11_comma_7 rfl (lv_at hl 0 rfl) ?_
      refine va_get (D := D) (ci := 10) (v := .int (sMo.1 6)) (C := RX11) (T := TX11) (N := 41) hx hb hts iX11 hown hK hP 0 o_Mo rfl 6 (by decide) (htl _ (mB18 _ (List.mem_of_getElem? (i := 2) rfl))) (fun _ h9 => h9) rfl dX11_comma_8 ?_
      refine lv_bipush (v := (44 : Int32)) hx hb dX11_comma_11 (by decide) ?_
      refine lv_icmp_eq (tgt := 18) hx hb dX11_comma_13 (by decide) (fun c2 => ?_) (fun c2 => ?_)
      · have hf := it_t hf c2
        refine lv_aload_n hx hb dX11_comma_18 rfl (lv_at hl 0 rfl) ?_
        obtain ⟨o3, go3, hf⟩ := bd_s hf
        refine rs_Vv (As := []) (rest := []) ⟨hx, hb, hml, hown, hts⟩ (c_X11_next l D K F hMo H.size sMo o3 go3) (cwV 0 hts (gcV_X11_next (mB18 _ (List.mem_of_getElem? (i := 19) rfl))) rfl rfl rfl hdV_X11_next ⟨Nat.le_of_ble_eq_true rfl, Nat.le_of_ble_eq_true rfl⟩) hK hP hD hS hA (va_recv hK hP (ci := 10) (q0 := 0) rfl o_Mo) rfl hl.1 rfl (Nat.le_of_ble_eq_true rfl) dX11_comma_19 ⟨Nat.zero_le _, Nat.zero_le _⟩ (fun H locs hP hD hS => ?_)
        have hP : va_P D vwCl (wMo K hMo o3) H := hP
        have hD : va_D A (wMo K hMo o3) := hD
        refine lv_iconst (v := (1 : Int32)) hx hb dX11_comma_22 (by decide) ?_
        have e9 := Option.some.inj hf
        rw [hQ]
        exact W.zret (v := (1 : Int32)) hx hb hr rfl (fun t ht hW => ⟨⟨(1 : Int32), o3, rfl, ⟨pr1 e9, pr2 e9⟩, ⟨by rw [ht]; exact hP, va_K.moved hW.alike hK, hD⟩⟩, hS.F ht⟩) hS.2.2 dX11_comma_23
      · have hf := it_f hf c2
        refine lv_iconst (v := (0 : Int32)) hx hb dX11_comma_16 (by decide) ?_
        have e9 := Option.some.inj hf
        rw [hQ]
        exact W.zret (v := (0 : Int32)) hx hb hr rfl (fun t ht hW => ⟨⟨(0 : Int32), sMo, rfl, ⟨pr1 e9, pr2 e9⟩, ⟨by rw [ht]; exact hP, va_K.moved hW.alike hK, hD⟩⟩, hS.F ht⟩) hS.2.2 dX11_comma_17
  rw [hHe] at hgo
  exact hgo

theorem gcV_X11_after {T0 : Cond} {own : String} {i : Nat} (h : Cond.methodLink own i yX11_after ∈ wsL_law) : GoodIn (T0 :: wsL_law) (wsV own i RX11 yX11_after wz_X11_after) := gV h (mB20 _ (List.mem_of_getElem? (i := 6) rfl)) (mB20 _ (List.mem_of_getElem? (i := 7) rfl)) (mB1 _ (List.mem_of_getElem? (i := 5) rfl)) (mB20 _ (List.mem_of_getElem? (i := 8) rfl))
theorem hdV_X11_after : yX11_after.cls = RX11 ∧ yX11_after.cls ≠ "java/lang/invoke/MethodHandle" ∧ yX11_after.cls ≠ "java/lang/invoke/VarHandle" ∧ (parseMethodDescriptor yX11_after.desc).map (fun d => d.parameters.length) = some 3 := by decide +kernel
theorem gcV_X11_comma {T0 : Cond} {own : String} {i : Nat} (h : Cond.methodLink own i yX11_comma ∈ wsL_law) : GoodIn (T0 :: wsL_law) (wsV own i RX11 yX11_comma wz_X11_comma) := gV h (mB21 _ (List.mem_of_getElem? (i := 2) rfl)) (mB21 _ (List.mem_of_getElem? (i := 3) rfl)) (mB1 _ (List.mem_of_getElem? (i := 5) rfl)) (mB21 _ (List.mem_of_getElem? (i := 4) rfl))
theorem hdV_X11_comma : yX11_comma.cls = RX11 ∧ yX11_comma.cls ≠ "java/lang/invoke/MethodHandle" ∧ yX11_comma.cls ≠ "java/lang/invoke/VarHandle" ∧ (parseMethodDescriptor yX11_comma.desc).map (fun d => d.parameters.length) = some 0 := by decide +kernel
def wz_X11_carLine : List Cond := .code yX11_carLine cX11_carLine 1 none :: wsL_law
abbrev r_X11_carLine : Room := { frames := 8, cells := 0, slots := 0, locals := 173 }
set_option maxHeartbeats 4000000 in
set_option maxRecDepth 100000 in
theorem c_X11_carLine (l : Launch) (D : va_G) (K : Nat → ClassId) (F : Nat) (adK adV : Nat → Nat) (tF : Nat) (hMo : Nat → Nat) (sz : Nat) (sMo : MS) (res : MS) (hf : f_X11_carLine F sMo = some res) : Met l yX11_carLine wz_X11_carLine r_X11_carLine (va_Pc [.ref (hMo 99)] (PWz D K adK adV tF (wMo K hMo sMo) sz)) (va_Qv (fun u => u = res) (fun u t => BW D K (va_A (wMo K hMo sMo) sz) (wMo K hMo u) t) (va_A (wMo K hMo sMo) sz)) 0 0 (va_A (wMo K hMo sMo) sz) := by
  refine Met.ofW (cc := cX11_carLine) (maxL := 1) (ret := none) (by decide) rfl ?_
  intro p e s m args below meth c s₁ B hml hv
  obtain ⟨hargs, ⟨hsz, hP, hK, hD0⟩, hZ⟩ := hv
  have hx := B.exec
  have hb := B.bytes
  have hr := B.returns
  have hts := atoms_spec (ws := wz_X11_carLine) B.pre
  have htl : ∀ w ∈ wsL_law, w.before args s = true := fun w h => hts w (List.mem_cons_of_mem _ h)
  have hown : s.vm.findClass RX11 = some m.cls := findClass_of_methodNamed B.named
  have hlocks := B.notSynchronized
  subst hsz
  have hD := hD0.self (sz := s.heap.size)
  generalize hAe : va_A (wMo K hMo sMo) s.heap.size = A at hD hZ ⊢
  have hA : ∀ q : Nat, s.heap.size ≤ q → A q := fun q h => by rw [← hAe]; exact Or.inr h
  have hS : va_S A s.heap s.heap [] := va_S.rf
  have iX11 : ∀ w ∈ wsX110, w ∈ wz_X11_carLine := fun w h => List.mem_cons_of_mem _ (inlX11 w h)
  suffices hgo : ∀ Q : State → Prop, Q = MQ below (va_Qv (fun u => u = res) (fun u t => BW D K A (wMo K hMo u) t) A) args s 0 0 A → W p l e (headSpec wz_X11_carLine r_X11_carLine).room s m args below meth c s.heap [] 0 0 Q (entryFrame m args 1) from hgo _ rfl
  intro Q hQ
  have w104 : ∀ (sMo : MS), ∀ (H : Heap) (locs : List Loc) (ls : Array Slot), f_X11_carLine_104 F sMo = some res → va_P D vwCl (wMo K hMo sMo) H → va_D A (wMo K hMo sMo) → va_S A s.heap H locs → lv_has ls 1 [(0, .ref (hMo 99))] → W p l e (headSpec wz_X11_carLine r_X11_carLine).room s m args below meth c H locs 0 0 Q (F0 m 104 ls []) := by
    intro sMo H locs ls hf hP hD hS hl
    unfold f_X11_carLine_104 at hf
    refine lv_aload_n hx hb dX11_carLine_104 rfl (lv_at hl 0 rfl) ?_
    refine va_get (D := D) (ci := 10) (v := .ref (hMo 16)) (C := RX11) (T := TX11) (N := 41) hx hb hts iX11 hown hK hP 0 o_Mo rfl 16 (by decide) (htl _ (mB6 _ (List.mem_of_getElem? (i := 4) rfl))) (fun _ h9 => h9) rfl dX11_carLine_105 ?_
    refine lv_iconst (v := (3 : Int32)) hx hb dX11_carLine_108 (by decide) ?_
    refine lv_aload_n hx hb dX11_carLine_109 rfl (lv_at hl 0 rfl) ?_
    refine lv_iconst (v := (0 : Int32)) hx hb dX11_carLine_110 (by decide) ?_
    refine lv_bipush (v := (60 : Int32)) hx hb dX11_carLine_111 (by decide) ?_
    obtain ⟨o22, go22, hf⟩ := bd_s hf
    refine rs_Vi (As := [.int (0 : Int32), .int (60 : Int32)]) (rest := [.int (3 : Int32), .ref (hMo 16)]) ⟨hx, hb, hml, hown, hts⟩ (c_X11_number l D K F hMo H.size sMo (0 : Int32) (60 : Int32) o22 go22) (cwV 2 hts (gcV_X11_number (mB20 _ (List.mem_of_getElem? (i := 17) rfl))) rfl rfl rfl hdV_X11_number ⟨Nat.le_of_ble_eq_true rfl, Nat.le_of_ble_eq_true rfl⟩) hK hP hD hS hA (va_recv hK hP (ci := 10) (q0 := 0) rfl o_Mo) rfl hl.1 rfl (Nat.le_of_ble_eq_true rfl) dX11_carLine_113 ⟨Nat.zero_le _, Nat.zero_le _⟩ (fun H locs hP hD hS => ?_)
    have hP : va_P D vwCl (wMo K hMo o22.2) H := hP
    have hD : va_D A (wMo K hMo o22.2) := hD
    obtain ⟨g23, hf⟩ := gd_s hf
    refine va_iast hx hb hK hP hD hS 4 0 (f := o22.2.2.2.1 16) a_Mo_16 rfl (vpb_in g23) dX11_carLine_116 (fun H locs hP hD hS => ?_)
    have hP := cvP sa_Mo_16 hP
    have hD := cvD sa_Mo_16 hD
    obtain ⟨s24, es24⟩ : ∃ z, z = sA o22.2 16 ((3 : Int32).toNatClampNeg) o22.1 := ⟨_, rfl⟩
    have hP : va_P D vwCl (wMo K hMo s24) H := by rw [es24]; exact hP
    have hD : va_D A (wMo K hMo s24) := by rw [es24]; exact hD
    have hf := lz_s hf s24 es24
    refine lv_aload_n hx hb dX11_carLine_117 rfl (lv_at hl 0 rfl) ?_
    refine va_get (D := D) (ci := 10) (v := .ref (hMo 16)) (C := RX11) (T := TX11) (N := 41) hx hb hts iX11 hown hK hP 0 o_Mo rfl 16 (by decide) (htl _ (mB6 _ (List.mem_of_getElem? (i := 4) rfl))) (fun _ h9 => h9) rfl dX11_carLine_118 ?_
    refine lv_iconst (v := (4 : Int32)) hx hb dX11_carLine_121 (by decide) ?_
    refine lv_aload_n hx hb dX11_carLine_122 rfl (lv_at hl 0 rfl) ?_
    refine va_ldcS (own := RX11) (index := 238) (tx := "stuck") (q := adK 9) hx hb hown (hZ.2.2.2 (RX11, 238, "stuck", 9) (List.mem_of_getElem? (i := 10) rfl)) dX11_carLine_123 ?_
    refine lv_iconst (v := (0 : Int32)) hx hb dX11_carLine_125 (by decide) ?_
    refine lv_sipush (v := (999 : Int32)) hx hb dX11_carLine_126 (by decide) ?_
    obtain ⟨o25, go25, hf⟩ := bd_s hf
    refine rs_Viz (As := [.ref (adK 9), .int (0 : Int32), .int (999 : Int32)]) (rest := [.int (4 : Int32), .ref (hMo 16)]) ⟨hx, hb, hml, hown, hts⟩ (c_X11_after l D K F adK adV tF hMo H.size s24 9 (0 : Int32) (999 : Int32) o25 go25) (cwV 3 hts (gcV_X11_after (mB20 _ (List.mem_of_getElem? (i := 5) rfl))) rfl rfl rfl hdV_X11_after ⟨Nat.le_of_ble_eq_true rfl, Nat.le_of_ble_eq_true rfl⟩) hK hP hD hS hA hZ (va_recv hK hP (ci := 10) (q0 := 0) rfl o_Mo) rfl hl.1 rfl (Nat.le_of_ble_eq_true rfl) dX11_carLine_129 ⟨Nat.zero_le _, Nat.zero_le _⟩ (fun H locs hP hD hS => ?_)
    have hP : va_P D vwCl (wMo K hMo o25.2) H := hP
    have hD : va_D A (wMo K hMo o25.2) := hD
    obtain ⟨g26, hf⟩ := gd_s hf
    refine va_iast hx hb hK hP hD hS 4 0 (f := o25.2.2.2.1 16) a_Mo_16 rfl (vpb_in g26) dX11_carLine_132 (fun H locs hP hD hS => ?_)
    have hP := cvP sa_Mo_16 hP
    have hD := cvD sa_Mo_16 hD
    obtain ⟨s27, es27⟩ : ∃ z, z = sA o25.2 16 ((4 : Int32).toNatClampNeg) o25.1 := ⟨_, rfl⟩
    have hP : va_P D vwCl (wMo K hMo s27) H := by rw [es27]; exact hP
    have hD : va_D A (wMo K hMo s27) := by rw [es27]; exact hD
    have hf := lz_s hf s27 es27
    refine lv_aload_n hx hb dX11_carLine_133 rfl (lv_at hl 0 rfl) ?_
    refine va_get (D := D) (ci := 10) (v := .int (s27.1 13)) (C := RX11) (T := TX11) (N := 41) hx hb hts iX11 hown hK hP 0 o_Mo rfl 13 (by decide) (htl _ (mB17 _ (List.mem_of_getElem? (i := 23) rfl))) (fun _ h9 => h9) rfl dX11_carLine_134 ?_
    refine lv_if_ne (tgt := 148) hx hb dX11_carLine_137 (by decide) (fun c28 => ?_) (fun c28 => ?_)
    · have hf := it_f hf c28
      have e9 := Option.some.inj hf
      rw [hQ]
      exact W.vret hx hb hr (fun t ht hW => ⟨⟨s27, rfl, e9, ⟨by rw [ht]; exact hP, va_K.moved hW.alike hK, hD⟩⟩, hS.F ht⟩) hS.2.2 dX11_carLine_148
    · have hf := it_t hf c28
      refine lv_aload_n hx hb dX11_carLine_140 rfl (lv_at hl 0 rfl) ?_
      refine va_get (D := D) (ci := 10) (v := .ref (hMo 16)) (C := RX11) (T := TX11) (N := 41) hx hb hts iX11 hown hK hP 0 o_Mo rfl 16 (by decide) (htl _ (mB6 _ (List.mem_of_getElem? (i := 4) rfl))) (fun _ h9 => h9) rfl dX11_carLine_141 ?_
      refine lv_bipush (v := (10 : Int32)) hx hb dX11_carLine_144 (by decide) ?_
      refine lv_iconst (v := (1 : Int32)) hx hb dX11_carLine_146 (by decide) ?_
      obtain ⟨g29, hf⟩ := gd_s hf
      refine va_iast hx hb hK hP hD hS 4 0 (f := s27.2.2.1 16) a_Mo_16 rfl (vpb_in g29) dX11_carLine_147 (fun H locs hP hD hS => ?_)
      have hP := cvP sa_Mo_16 hP
      have hD := cvD sa_Mo_16 hD
      obtain ⟨s30, es30⟩ : ∃ z, z = sA s27 16 ((10 : Int32).toNatClampNeg) (1 : Int32) := ⟨_, rfl⟩
      have hP : va_P D vwCl (wMo K hMo s30) H := by rw [es30]; exact hP
      have hD : va_D A (wMo K hMo s30) := by rw [es30]; exact hD
      have hf := lz_s hf s30 es30
      have e9 := Option.some.inj hf
      rw [hQ]
      exact W.vret hx hb hr (fun t ht hW => ⟨⟨s30, rfl, e9, ⟨by rw [ht]; exact hP, va_K.moved hW.alike hK, hD⟩⟩, hS.F ht⟩) hS.2.2 dX11_carLine_148
  have w20 : ∀ (sMo : MS), ∀ (H : Heap) (locs : List Loc) (ls : Array Slot), f_X11_carLine_20 F sMo = some res → va_P D vwCl (wMo K hMo sMo) H → va_D A (wMo K hMo sMo) → va_S A s.heap H locs → lv_has ls 1 [(0, .ref (hMo 99))] → W p l e (headSpec wz_X11_carLine r_X11_carLine).room s m args below meth c H locs 0 0 Q (F0 m 20 ls []) := by
    intro sMo H locs ls hf hP hD hS hl
    unfold f_X11_carLine_20 at hf
    refine lv_aload_n hx hb dX11_carLine_20 rfl (lv_at hl 0 rfl) ?_
    refine va_get (D := D) (ci := 10) (v := .int (sMo.1 13)) (C := RX11) (T := TX11) (N := 41) hx hb hts iX11 hown hK hP 0 o_Mo rfl 13 (by decide) (htl _ (mB17 _ (List.mem_of_getElem? (i := 23) rfl))) (fun _ h9 => h9) rfl dX11_carLine_21 ?_
    refine lv_if_eq (tgt := 28) hx hb dX11_carLine_24 (by decide) (fun c5 => ?_) (fun c5 => ?_)
    · have hf := it_t hf c5
      refine lv_aload_n hx hb dX11_carLine_28 rfl (lv_at hl 0 rfl) ?_
      obtain ⟨o6, go6, hf⟩ := bd_s hf
      refine rs_Vv (As := []) (rest := []) ⟨hx, hb, hml, hown, hts⟩ (c_X11_next l D K F hMo H.size sMo o6 go6) (cwV 0 hts (gcV_X11_next (mB18 _ (List.mem_of_getElem? (i := 19) rfl))) rfl rfl rfl hdV_X11_next ⟨Nat.le_of_ble_eq_true rfl, Nat.le_of_ble_eq_true rfl⟩) hK hP hD hS hA (va_recv hK hP (ci := 10) (q0 := 0) rfl o_Mo) rfl hl.1 rfl (Nat.le_of_ble_eq_true rfl) dX11_carLine_29 ⟨Nat.zero_le _, Nat.zero_le _⟩ (fun H locs hP hD hS => ?_)
      have hP : va_P D vwCl (wMo K hMo o6) H := hP
      have hD : va_D A (wMo K hMo o6) := hD
      refine lv_aload_n hx hb dX11_carLine_32 rfl (lv_at hl 0 rfl) ?_
      refine va_get (D := D) (ci := 10) (v := .ref (hMo 16)) (C := RX11) (T := TX11) (N := 41) hx hb hts iX11 hown hK hP 0 o_Mo rfl 16 (by decide) (htl _ (mB6 _ (List.mem_of_getElem? (i := 4) rfl))) (fun _ h9 => h9) rfl dX11_carLine_33 ?_
      refine lv_iconst (v := (0 : Int32)) hx hb dX11_carLine_36 (by decide) ?_
      refine lv_aload_n hx hb dX11_carLine_37 rfl (lv_at hl 0 rfl) ?_
      refine va_ldcS (own := RX11) (index := 224) (tx := "tank") (q := adK 6) hx hb hown (hZ.2.2.2 (RX11, 224, "tank", 6) (List.mem_of_getElem? (i := 7) rfl)) dX11_carLine_38 ?_
      refine lv_iconst (v := (1 : Int32)) hx hb dX11_carLine_40 (by decide) ?_
      refine lv_bipush (v := (40 : Int32)) hx hb dX11_carLine_41 (by decide) ?_
      obtain ⟨o7, go7, hf⟩ := bd_s hf
      refine rs_Viz (As := [.ref (adK 6), .int (1 : Int32), .int (40 : Int32)]) (rest := [.int (0 : Int32), .ref (hMo 16)]) ⟨hx, hb, hml, hown, hts⟩ (c_X11_after l D K F adK adV tF hMo H.size o6 6 (1 : Int32) (40 : Int32) o7 go7) (cwV 3 hts (gcV_X11_after (mB20 _ (List.mem_of_getElem? (i := 5) rfl))) rfl rfl rfl hdV_X11_after ⟨Nat.le_of_ble_eq_true rfl, Nat.le_of_ble_eq_true rfl⟩) hK hP hD hS hA hZ (va_recv hK hP (ci := 10) (q0 := 0) rfl o_Mo) rfl hl.1 rfl (Nat.le_of_ble_eq_true rfl) dX11_carLine_43 ⟨Nat.zero_le _, Nat.zero_le _⟩ (fun H locs hP hD hS => ?_)
      have hP : va_P D vwCl (wMo K hMo o7.2) H := hP
      have hD : va_D A (wMo K hMo o7.2) := hD
      obtain ⟨g8, hf⟩ := gd_s hf
      refine va_iast hx hb hK hP hD hS 4 0 (f := o7.2.2.2.1 16) a_Mo_16 rfl (vpb_in g8) dX11_carLine_46 (fun H locs hP hD hS => ?_)
      have hP := cvP sa_Mo_16 hP
      have hD := cvD sa_Mo_16 hD
      obtain ⟨s9, es9⟩ : ∃ z, z = sA o7.2 16 ((0 : Int32).toNatClampNeg) o7.1 := ⟨_, rfl⟩
      have hP : va_P D vwCl (wMo K hMo s9) H := by rw [es9]; exact hP
      have hD : va_D A (wMo K hMo s9) := by rw [es9]; exact hD
      have hf := lz_s hf s9 es9
      refine lv_aload_n hx hb dX11_carLine_47 rfl (lv_at hl 0 rfl) ?_
      refine va_get (D := D) (ci := 10) (v := .ref (hMo 16)) (C := RX11) (T := TX11) (N := 41) hx hb hts iX11 hown hK hP 0 o_Mo rfl 16 (by decide) (htl _ (mB6 _ (List.mem_of_getElem? (i := 4) rfl))) (fun _ h9 => h9) rfl dX11_carLine_48 ?_
      refine lv_iconst (v := (1 : Int32)) hx hb dX11_carLine_51 (by decide) ?_
      refine lv_aload_n hx hb dX11_carLine_52 rfl (lv_at hl 0 rfl) ?_
      refine va_ldcS (own := RX11) (index := 230) (tx := "has") (q := adK 7) hx hb hown (hZ.2.2.2 (RX11, 230, "has", 7) (List.mem_of_getElem? (i := 8) rfl)) dX11_carLine_53 ?_
      refine lv_iconst (v := (0 : Int32)) hx hb dX11_carLine_55 (by decide) ?_
      refine lv_aload_n hx hb dX11_carLine_56 rfl (lv_at hl 0 rfl) ?_
      refine va_get (D := D) (ci := 10) (v := .ref (hMo 16)) (C := RX11) (T := TX11) (N := 41) hx hb hts iX11 hown hK hP 0 o_Mo rfl 16 (by decide) (htl _ (mB6 _ (List.mem_of_getElem? (i := 4) rfl))) (fun _ h9 => h9) rfl dX11_carLine_57 ?_
      refine lv_iconst (v := (0 : Int32)) hx hb dX11_carLine_60 (by decide) ?_
      obtain ⟨g10, hf⟩ := gd_s hf
      refine va_iald hx hb hK hP 4 0 (f := s9.2.2.1 16) a_Mo_16 rfl (vpb_in g10) dX11_carLine_61 ?_
      refine lv_topi (fun v11 ev11 => ?_)
      have hf := lz_s hf v11 ev11
      obtain ⟨o12, go12, hf⟩ := bd_s hf
      refine rs_Viz (As := [.ref (adK 7), .int (0 : Int32), .int v11]) (rest := [.int (1 : Int32), .ref (hMo 16)]) ⟨hx, hb, hml, hown, hts⟩ (c_X11_after l D K F adK adV tF hMo H.size s9 7 (0 : Int32) v11 o12 go12) (cwV 3 hts (gcV_X11_after (mB20 _ (List.mem_of_getElem? (i := 5) rfl))) rfl rfl rfl hdV_X11_after ⟨Nat.le_of_ble_eq_true rfl, Nat.le_of_ble_eq_true rfl⟩) hK hP hD hS hA hZ (va_recv hK hP (ci := 10) (q0 := 0) rfl o_Mo) rfl hl.1 rfl (Nat.le_of_ble_eq_true rfl) dX11_carLine_62 ⟨Nat.zero_le _, Nat.zero_le _⟩ (fun H locs hP hD hS => ?_)
      have hP : va_P D vwCl (wMo K hMo o12.2) H := hP
      have hD : va_D A (wMo K hMo o12.2) := hD
      obtain ⟨g13, hf⟩ := gd_s hf
      refine va_iast hx hb hK hP hD hS 4 0 (f := o12.2.2.2.1 16) a_Mo_16 rfl (vpb_in g13) dX11_carLine_65 (fun H locs hP hD hS => ?_)
      have hP := cvP sa_Mo_16 hP
      have hD := cvD sa_Mo_16 hD
      obtain ⟨s14, es14⟩ : ∃ z, z = sA o12.2 16 ((1 : Int32).toNatClampNeg) o12.1 := ⟨_, rfl⟩
      have hP : va_P D vwCl (wMo K hMo s14) H := by rw [es14]; exact hP
      have hD : va_D A (wMo K hMo s14) := by rw [es14]; exact hD
      have hf := lz_s hf s14 es14
      refine lv_aload_n hx hb dX11_carLine_66 rfl (lv_at hl 0 rfl) ?_
      refine va_get (D := D) (ci := 10) (v := .ref (hMo 16)) (C := RX11) (T := TX11) (N := 41) hx hb hts iX11 hown hK hP 0 o_Mo rfl 16 (by decide) (htl _ (mB6 _ (List.mem_of_getElem? (i := 4) rfl))) (fun _ h9 => h9) rfl dX11_carLine_67 ?_
      refine lv_iconst (v := (2 : Int32)) hx hb dX11_carLine_70 (by decide) ?_
      refine lv_aload_n hx hb dX11_carLine_71 rfl (lv_at hl 0 rfl) ?_
      refine va_ldcS (own := RX11) (index := 232) (tx := "stop") (q := adK 8) hx hb hown (hZ.2.2.2 (RX11, 232, "stop", 8) (List.mem_of_getElem? (i := 9) rfl)) dX11_carLine_72 ?_
      refine lv_iconst (v := (0 : Int32)) hx hb dX11_carLine_74 (by decide) ?_
      refine lv_bipush (v := (99 : Int32)) hx hb dX11_carLine_75 (by decide) ?_
      obtain ⟨o15, go15, hf⟩ := bd_s hf
      refine rs_Viz (As := [.ref (adK 8), .int (0 : Int32), .int (99 : Int32)]) (rest := [.int (2 : Int32), .ref (hMo 16)]) ⟨hx, hb, hml, hown, hts⟩ (c_X11_after l D K F adK adV tF hMo H.size s14 8 (0 : Int32) (99 : Int32) o15 go15) (cwV 3 hts (gcV_X11_after (mB20 _ (List.mem_of_getElem? (i := 5) rfl))) rfl rfl rfl hdV_X11_after ⟨Nat.le_of_ble_eq_true rfl, Nat.le_of_ble_eq_true rfl⟩) hK hP hD hS hA hZ (va_recv hK hP (ci := 10) (q0 := 0) rfl o_Mo) rfl hl.1 rfl (Nat.le_of_ble_eq_true rfl) dX11_carLine_77 ⟨Nat.zero_le _, Nat.zero_le _⟩ (fun H locs hP hD hS => ?_)
      have hP : va_P D vwCl (wMo K hMo o15.2) H := hP
      have hD : va_D A (wMo K hMo o15.2) := hD
      obtain ⟨g16, hf⟩ := gd_s hf
      refine va_iast hx hb hK hP hD hS 4 0 (f := o15.2.2.2.1 16) a_Mo_16 rfl (vpb_in g16) dX11_carLine_80 (fun H locs hP hD hS => ?_)
      have hP := cvP sa_Mo_16 hP
      have hD := cvD sa_Mo_16 hD
      obtain ⟨s17, es17⟩ : ∃ z, z = sA o15.2 16 ((2 : Int32).toNatClampNeg) o15.1 := ⟨_, rfl⟩
      have hP : va_P D vwCl (wMo K hMo s17) H := by rw [es17]; exact hP
      have hD : va_D A (wMo K hMo s17) := by rw [es17]; exact hD
      have hf := lz_s hf s17 es17
      refine lv_aload_n hx hb dX11_carLine_81 rfl (lv_at hl 0 rfl) ?_
      refine va_get (D := D) (ci := 10) (v := .int (s17.1 13)) (C := RX11) (T := TX11) (N := 41) hx hb hts iX11 hown hK hP 0 o_Mo rfl 13 (by decide) (htl _ (mB17 _ (List.mem_of_getElem? (i := 23) rfl))) (fun _ h9 => h9) rfl dX11_carLine_82 ?_
      refine lv_if_ne (tgt := 104) hx hb dX11_carLine_85 (by decide) (fun c18 => ?_) (fun c18 => ?_)
      · have hf := it_f hf c18
        exact w104 s17 H locs ls hf hP hD hS (lv_sub hl [0] rfl)
      · have hf := it_t hf c18
        refine lv_aload_n hx hb dX11_carLine_88 rfl (lv_at hl 0 rfl) ?_
        obtain ⟨o19, go19, hf⟩ := bd_s hf
        refine rs_Vi (As := []) (rest := []) ⟨hx, hb, hml, hown, hts⟩ (c_X11_comma l D K F hMo H.size s17 o19 go19) (cwV 0 hts (gcV_X11_comma (mB21 _ (List.mem_of_getElem? (i := 1) rfl))) rfl rfl rfl hdV_X11_comma ⟨Nat.le_of_ble_eq_true rfl, Nat.le_of_ble_eq_true rfl⟩) hK hP hD hS hA (va_recv hK hP (ci := 10) (q0 := 0) rfl o_Mo) rfl hl.1 rfl (Nat.le_of_ble_eq_true rfl) dX11_carLine_89 ⟨Nat.zero_le _, Nat.zero_le _⟩ (fun H locs hP hD hS => ?_)
        have hP : va_P D vwCl (wMo K hMo o19.2) H := hP
        have hD : va_D A (wMo K hMo o19.2) := hD
        refine lv_if_ne (tgt := 104) hx hb dX11_carLine_92 (by decide) (fun c20 => ?_) (fun c20 => ?_)
        · have hf := it_f hf c20
          exact w104 o19.2 H locs ls hf hP hD hS (lv_sub hl [0] rfl)
        · have hf := it_t hf c20
          refine lv_aload_n hx hb dX11_carLine_95 rfl (lv_at hl 0 rfl) ?_
          refine lv_iconst (v := (1 : Int32)) hx hb dX11_carLine_96 (by decide) ?_
          refine lv_aload_n hx hb dX11_carLine_97 rfl (lv_at hl 0 rfl) ?_
          refine va_get (D := D) (ci := 10) (v := .int (o19.2.1 4)) (C := RX11) (T := TX11) (N := 41) hx hb hts iX11 hown hK hP 0 o_Mo rfl 4 (by decide) (htl _ (mB18 _ (List.mem_of_getElem? (i := 3) rfl))) (fun _ h9 => h9) rfl dX11_carLine_98 ?_
          obtain ⟨o21, go21, hf⟩ := bd_s hf
          refine rs_Vv (As := [.int (1 : Int32), .int (o19.2.1 4)]) (rest := []) ⟨hx, hb, hml, hown, hts⟩ (c_X11_wrong l D K F hMo H.size o19.2 (1 : Int32) (o19.2.1 4) o21 go21) (cwV 2 hts (gcV_X11_wrong (mB20 _ (List.mem_of_getElem? (i := 1) rfl))) rfl rfl rfl hdV_X11_wrong ⟨Nat.le_of_ble_eq_true rfl, Nat.le_of_ble_eq_true rfl⟩) hK hP hD hS hA (va_recv hK hP (ci := 10) (q0 := 0) rfl o_Mo) rfl hl.1 rfl (Nat.le_of_ble_eq_true rfl) dX11_carLine_101 ⟨Nat.zero_le _, Nat.zero_le _⟩ (fun H locs hP hD hS => ?_)
          have hP : va_P D vwCl (wMo K hMo o21) H := hP
          have hD : va_D A (wMo K hMo o21) := hD
          exact w104 o21 H locs ls hf hP hD hS (lv_sub hl [0] rfl)
    · have hf := it_f hf c5
      have e9 := Option.some.inj hf
      rw [hQ]
      exact W.vret hx hb hr (fun t ht hW => ⟨⟨sMo, rfl, e9, ⟨by rw [ht]; exact hP, va_K.moved hW.alike hK, hD⟩⟩, hS.F ht⟩) hS.2.2 dX11_carLine_27
  have hen : entryFrame m args 1 = entryFrame m (([.ref (hMo 99)] : List Value).toArray) 1 := by rw [hargs]
  have hl := lv_entry ([.ref (hMo 99)]) (n := 1) (Nat.le_of_ble_eq_true rfl)
  rw [hen, lg_entry_eq]
  generalize (lg_sl ([.ref (hMo 99)]) ++ List.replicate (1 - (lg_sl ([.ref (hMo 99)])).length) Slot.unset).toArray = ls at hl ⊢
  have hl : lv_has ls 1 [(0, .ref (hMo 99))] := hl
  unfold f_X11_carLine at hf
  obtain ⟨H, hHe⟩ : ∃ z, z = s.heap := ⟨_, rfl⟩
  obtain ⟨locs, hLe⟩ : ∃ z : List Loc, z = [] := ⟨_, rfl⟩
  rw [← hLe]
  have hS : va_S A s.heap H locs := by rw [hHe, hLe]; exact hS
  have hP : va_P D vwCl (wMo K hMo sMo) H := by rw [hHe]; exact hP
  have hgo : W p l e (headSpec wz_X11_carLine r_X11_carLine).room s m args below meth c H locs 0 0 Q (F0 m 0 ls []) := by
    refine lv_aload_n hx hb dX11_carLine_0 rfl (lv_at hl 0 rfl) ?_
    refine va_get (D := D) (ci := 10) (v := .ref (hMo 16)) (C := RX11) (T := TX11) (N := 41) hx hb hts iX11 hown hK hP 0 o_Mo rfl 16 (by decide) (htl _ (mB6 _ (List.mem_of_getElem? (i := 4) rfl))) (fun _ h9 => h9) rfl dX11_carLine_1 ?_
    refine lv_bipush (v := (10 : Int32)) hx hb dX11_carLine_4 (by decide) ?_
    obtain ⟨g1, hf⟩ := gd_s hf
    refine va_iald hx hb hK hP 4 0 (f := sMo.2.2.1 16) a_Mo_16 rfl (vpb_in g1) dX11_carLine_6 ?_
    refine lv_topi (fun v2 ev2 => ?_)
    have hf := lz_s hf v2 ev2
    refine lv_iconst (v := (1 : Int32)) hx hb dX11_carLine_7 (by decide) ?_
    refine lv_icmp_ne (tgt := 20) hx hb dX11_carLine_8 (by decide) (fun c3 => ?_) (fun c3 => ?_)
    · have hf := it_f hf c3
      exact w20 sMo H locs ls hf hP hD hS (lv_sub hl [0] rfl)
    · have hf := it_t hf c3
      refine lv_aload_n hx hb dX11_carLine_11 rfl (lv_at hl 0 rfl) ?_
      refine lv_iconst (v := (3 : Int32)) hx hb dX11_carLine_12 (by decide) ?_
      refine lv_aload_n hx hb dX11_carLine_13 rfl (lv_at hl 0 rfl) ?_
      refine va_get (D := D) (ci := 10) (v := .int (sMo.1 4)) (C := RX11) (T := TX11) (N := 41) hx hb hts iX11 hown hK hP 0 o_Mo rfl 4 (by decide) (htl _ (mB18 _ (List.mem_of_getElem? (i := 3) rfl))) (fun _ h9 => h9) rfl dX11_carLine_14 ?_
      obtain ⟨o4, go4, hf⟩ := bd_s hf
      refine rs_Vv (As := [.int (3 : Int32), .int (sMo.1 4)]) (rest := []) ⟨hx, hb, hml, hown, hts⟩ (c_X11_wrong l D K F hMo H.size sMo (3 : Int32) (sMo.1 4) o4 go4) (cwV 2 hts (gcV_X11_wrong (mB20 _ (List.mem_of_getElem? (i := 1) rfl))) rfl rfl rfl hdV_X11_wrong ⟨Nat.le_of_ble_eq_true rfl, Nat.le_of_ble_eq_true rfl⟩) hK hP hD hS hA (va_recv hK hP (ci := 10) (q0 := 0) rfl o_Mo) rfl hl.1 rfl (Nat.le_of_ble_eq_true rfl) dX11_carLine_17 ⟨Nat.zero_le _, Nat.zero_le _⟩ (fun H locs hP hD hS => ?_)
      have hP : va_P D vwCl (wMo K hMo o4) H := hP
      have hD : va_D A (wMo K hMo o4) := hD
      exact w20 o4 H locs ls hf hP hD hS (lv_sub hl [0] rfl)
  rw [hHe] at hgo
  exact hgo
