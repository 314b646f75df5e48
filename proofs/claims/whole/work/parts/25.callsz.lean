abbrev PRz (D : va_G) (K : Nat → ClassId) (adK adV : Nat → Nat) (tF : Nat) (ws : va_W) : State → Prop := fun U => PR D K ws U ∧ SS adK adV tF nOne U
abbrev PWz (D : va_G) (K : Nat → ClassId) (adK adV : Nat → Nat) (tF : Nat) (ws : va_W) (sz : Nat) : State → Prop := fun U => PW D K ws sz U ∧ SS adK adV tF (va_A ws sz) U
theorem bl_Rz {D : va_G} {K : Nat → ClassId} {adK adV : Nat → Nat} {tF : Nat} {ws : va_W} {av : List Value} : FrameBlind (va_Pc av (PRz D K adK adV tF ws)) := fun a U g mk q => ⟨q.1, (bl_R (av := av) a U g mk ⟨q.1, q.2.1⟩).2, SS_bl q.2.2⟩
theorem bl_Wz {D : va_G} {K : Nat → ClassId} {adK adV : Nat → Nat} {tF : Nat} {ws : va_W} {sz : Nat} {av : List Value} : FrameBlind (va_Pc av (PWz D K adK adV tF ws sz)) := fun a U g mk q => ⟨q.1, (bl_W (av := av) a U g mk ⟨q.1, q.2.1⟩).2, SS_bl q.2.2⟩
section XC
variable {p : Program} {l : Launch} {e : Env} {R : Room} {s : State} {m : MethodId} {args : Array Value} {below : List Frame} {meth : Method} {c : Code} {H : Heap} {locs : List Loc} {cells slots : Nat} {Q : State → Prop}
variable {y : MethodName} {bytes cc : ByteArray} {maxL nL n index pc : Nat} {ret : Option FieldType} {ws : List Cond} {rm : Room} {Ts : List Cond} {own C : String} {b : Addr} {As rest st0 : List Value} {ls : Array Slot} {D : va_G} {K : Nat → ClassId} {ws0 wc : va_W} {A : Nat → Prop} {adK adV : Nat → Nat} {tF : Nat}

theorem ro_Viz {res : Int32} (S : CallFix p m c cc nL s args Ts own) (hM : Met l y ws rm (va_Pc (.ref b :: As) (PRz D K adK adV tF wc)) (va_Qi (fun r (_ : Unit) => r = res) BN nOne) 0 0 nOne) (cw : CallW R s args own C index y bytes maxL ret ws rm 0 0 n) (hK : va_K D vwCl (tyL K) s) (hP : va_P D vwCl ws0 H) (hS : va_S A s.heap H locs) (hZ : SS adK adV tF A s) (hPc : va_P D vwCl wc H) (hv : ∃ cell : Cell, H[b]? = some cell ∧ cell.vm.isStatics = false ∧ s.vm.findClass C = some cell.cls)
    (hn : As.length = n) (hsize : ls.size = nL) (hst : st0 = As.reverse ++ .ref b :: rest) (hW : (rest.map fun v => v.category).sum ≤ 8) (hdg : decode cc pc = .ok (.invokevirtual index, 3)) (hcs : cells + 0 ≤ R.cells ∧ slots + 0 ≤ R.slots)
    (kk : ∀ (H1 : Heap) (locs1 : List Loc), va_P D vwCl ws0 H1 → va_S A s.heap H1 locs1 → W p l e R s m args below meth c H1 locs1 cells slots Q (F0 m (pc + 3) ls (.int res :: rest))) : W p l e R s m args below meth c H locs cells slots Q (F0 m pc ls st0) := by
  refine va_calli (va_runV (As := As) (rest := rest) S hM cw ⟨bl_Rz, hv, fun U hU hW => ⟨rfl, ⟨by rw [hU]; exact hPc, va_K.moved hW.alike hK⟩, SS_at hZ hS (fun _ h => nO_e h) hU hW⟩⟩ rfl hn hsize hst (lv_room hW) hdg hcs) hS (fun q _ h => h.elim) (fun q h => h.elim) (fun r u t H1 locs1 ht hvm hw hB hz1 hk1 hS => ?_)
  subst hw
  exact kk H1 locs1 (hP.kept (fun k q h => hk1 q.1 (hP k q h).lt (fun z => z))) hS

theorem rw_Viz {S9 : Type} {res : Int32 × S9} {wo : S9 → va_W} {wn : va_W} (S : CallFix p m c cc nL s args Ts own) (hM : Met l y ws rm (va_Pc (.ref b :: As) (PWz D K adK adV tF wc H.size)) (va_Qi (fun r u => r = res.1 ∧ u = res.2) (fun u t => BW D K (va_A wc H.size) (wo u) t) (va_A wc H.size)) 0 0 (va_A wc H.size)) (cw : CallW R s args own C index y bytes maxL ret ws rm 0 0 n) (hK : va_K D vwCl (tyL K) s) (hP : va_P D vwCl ws0 H) (hD : va_D A ws0) (hS : va_S A s.heap H locs) (hA : ∀ q : Nat, s.heap.size ≤ q → A q) (hZ : SS adK adV tF A s) (isC isR isN : List Nat) (hC : isC.map (fun i => ws0[i]?) = wc.map some) (hR : isR.map (fun i => ws0[i]?) = (isR.filterMap (fun i => ws0[i]?)).map some) (hnC : va_nd isC = true) (hnR : va_nd isR = true) (hdis : ∀ i ∈ isR, i ∉ isC) (hN : isN.map (fun i => (isR.filterMap (fun i => ws0[i]?) ++ wo res.2)[i]?) = wn.map some) (hnN : va_nd isN = true) (hv : ∃ cell : Cell, H[b]? = some cell ∧ cell.vm.isStatics = false ∧ s.vm.findClass C = some cell.cls)
    (hn : As.length = n) (hsize : ls.size = nL) (hst : st0 = As.reverse ++ .ref b :: rest) (hW : (rest.map fun v => v.category).sum ≤ 8) (hdg : decode cc pc = .ok (.invokevirtual index, 3)) (hcs : cells + 0 ≤ R.cells ∧ slots + 0 ≤ R.slots)
    (kk : ∀ (H1 : Heap) (locs1 : List Loc), va_P D vwCl wn H1 → va_D A wn → va_S A s.heap H1 locs1 → W p l e R s m args below meth c H1 locs1 cells slots Q (F0 m (pc + 3) ls (.int res.1 :: rest))) : W p l e R s m args below meth c H locs cells slots Q (F0 m pc ls st0) := by
  have hDc := hD.sub isC hnC hC
  have hPc := va_Psel hP isC hC
  have hFc := va_free (wc := wc) hD hS hA isC hC
  refine va_calli (va_runV (As := As) (rest := rest) S hM cw ⟨bl_Wz, hv, fun U hU hW => ⟨rfl, ⟨by rw [hU], by rw [hU]; exact hPc, va_K.moved hW.alike hK, hDc.weaken (fun _ _ _ _ => trivial)⟩, SS_at hZ hS hFc hU hW⟩⟩ rfl hn hsize hst (lv_room hW) hdg hcs) hS (fun q _ h => hFc q h) hFc (fun r u t H1 locs1 ht hvm hw hB hz1 hk1 hS => ?_)
  obtain ⟨h1, h2⟩ := hw
  subst h1; subst h2
  obtain ⟨hP1, hK1, hD1⟩ := hB
  rw [ht] at hP1
  obtain ⟨g1, g2⟩ := rw_join hP hD isC isR isN hC hR hnR hdis hk1 hFc hP1 hD1 hN hnN
  exact kk H1 locs1 g1 g2 hS

theorem rs_Viz {S9 : Type} {res : Int32 × S9} {wo : S9 → va_W} (S : CallFix p m c cc nL s args Ts own) (hM : Met l y ws rm (va_Pc (.ref b :: As) (PWz D K adK adV tF ws0 H.size)) (va_Qi (fun r u => r = res.1 ∧ u = res.2) (fun u t => BW D K (va_A ws0 H.size) (wo u) t) (va_A ws0 H.size)) 0 0 (va_A ws0 H.size)) (cw : CallW R s args own C index y bytes maxL ret ws rm 0 0 n) (hK : va_K D vwCl (tyL K) s) (hP : va_P D vwCl ws0 H) (hD : va_D A ws0) (hS : va_S A s.heap H locs) (hA : ∀ q : Nat, s.heap.size ≤ q → A q) (hZ : SS adK adV tF A s) (hv : ∃ cell : Cell, H[b]? = some cell ∧ cell.vm.isStatics = false ∧ s.vm.findClass C = some cell.cls)
    (hn : As.length = n) (hsize : ls.size = nL) (hst : st0 = As.reverse ++ .ref b :: rest) (hW : (rest.map fun v => v.category).sum ≤ 8) (hdg : decode cc pc = .ok (.invokevirtual index, 3)) (hcs : cells + 0 ≤ R.cells ∧ slots + 0 ≤ R.slots)
    (kk : ∀ (H1 : Heap) (locs1 : List Loc), va_P D vwCl (wo res.2) H1 → va_D A (wo res.2) → va_S A s.heap H1 locs1 → W p l e R s m args below meth c H1 locs1 cells slots Q (F0 m (pc + 3) ls (.int res.1 :: rest))) : W p l e R s m args below meth c H locs cells slots Q (F0 m pc ls st0) := by
  have hPc := hP
  have hDc := hD
  have hFc : ∀ q, va_A ws0 H.size q → A q := va_freeA hD hS hA
  refine va_calli (va_runV (As := As) (rest := rest) S hM cw ⟨bl_Wz, hv, fun U hU hW => ⟨rfl, ⟨by rw [hU], by rw [hU]; exact hPc, va_K.moved hW.alike hK, hDc.weaken (fun _ _ _ _ => trivial)⟩, SS_at hZ hS hFc hU hW⟩⟩ rfl hn hsize hst (lv_room hW) hdg hcs) hS (fun q _ h => hFc q h) hFc (fun r u t H1 locs1 ht hvm hw hB hz1 hk1 hS => ?_)
  obtain ⟨h1, h2⟩ := hw
  subst h1; subst h2
  obtain ⟨hP1, hK1, hD1⟩ := hB
  rw [ht] at hP1
  exact kk H1 locs1 hP1 (hD1.weaken (fun _ q _ h => hFc q.1 h)) hS

theorem ro_Vlz {res : Int64} (S : CallFix p m c cc nL s args Ts own) (hM : Met l y ws rm (va_Pc (.ref b :: As) (PRz D K adK adV tF wc)) (va_Ql (fun r (_ : Unit) => r = res) BN nOne) 0 0 nOne) (cw : CallW R s args own C index y bytes maxL ret ws rm 0 0 n) (hK : va_K D vwCl (tyL K) s) (hP : va_P D vwCl ws0 H) (hS : va_S A s.heap H locs) (hZ : SS adK adV tF A s) (hPc : va_P D vwCl wc H) (hv : ∃ cell : Cell, H[b]? = some cell ∧ cell.vm.isStatics = false ∧ s.vm.findClass C = some cell.cls)
    (hn : As.length = n) (hsize : ls.size = nL) (hst : st0 = As.reverse ++ .ref b :: rest) (hW : (rest.map fun v => v.category).sum ≤ 8) (hdg : decode cc pc = .ok (.invokevirtual index, 3)) (hcs : cells + 0 ≤ R.cells ∧ slots + 0 ≤ R.slots)
    (kk : ∀ (H1 : Heap) (locs1 : List Loc), va_P D vwCl ws0 H1 → va_S A s.heap H1 locs1 → W p l e R s m args below meth c H1 locs1 cells slots Q (F0 m (pc + 3) ls (.long res :: rest))) : W p l e R s m args below meth c H locs cells slots Q (F0 m pc ls st0) := by
  refine va_calll (va_runV (As := As) (rest := rest) S hM cw ⟨bl_Rz, hv, fun U hU hW => ⟨rfl, ⟨by rw [hU]; exact hPc, va_K.moved hW.alike hK⟩, SS_at hZ hS (fun _ h => nO_e h) hU hW⟩⟩ rfl hn hsize hst (lv_room hW) hdg hcs) hS (fun q _ h => h.elim) (fun q h => h.elim) (fun r u t H1 locs1 ht hvm hw hB hz1 hk1 hS => ?_)
  subst hw
  exact kk H1 locs1 (hP.kept (fun k q h => hk1 q.1 (hP k q h).lt (fun z => z))) hS

theorem rw_Vlz {S9 : Type} {res : Int64 × S9} {wo : S9 → va_W} {wn : va_W} (S : CallFix p m c cc nL s args Ts own) (hM : Met l y ws rm (va_Pc (.ref b :: As) (PWz D K adK adV tF wc H.size)) (va_Ql (fun r u => r = res.1 ∧ u = res.2) (fun u t => BW D K (va_A wc H.size) (wo u) t) (va_A wc H.size)) 0 0 (va_A wc H.size)) (cw : CallW R s args own C index y bytes maxL ret ws rm 0 0 n) (hK : va_K D vwCl (tyL K) s) (hP : va_P D vwCl ws0 H) (hD : va_D A ws0) (hS : va_S A s.heap H locs) (hA : ∀ q : Nat, s.heap.size ≤ q → A q) (hZ : SS adK adV tF A s) (isC isR isN : List Nat) (hC : isC.map (fun i => ws0[i]?) = wc.map some) (hR : isR.map (fun i => ws0[i]?) = (isR.filterMap (fun i => ws0[i]?)).map some) (hnC : va_nd isC = true) (hnR : va_nd isR = true) (hdis : ∀ i ∈ isR, i ∉ isC) (hN : isN.map (fun i => (isR.filterMap (fun i => ws0[i]?) ++ wo res.2)[i]?) = wn.map some) (hnN : va_nd isN = true) (hv : ∃ cell : Cell, H[b]? = some cell ∧ cell.vm.isStatics = false ∧ s.vm.findClass C = some cell.cls)
    (hn : As.length = n) (hsize : ls.size = nL) (hst : st0 = As.reverse ++ .ref b :: rest) (hW : (rest.map fun v => v.category).sum ≤ 8) (hdg : decode cc pc = .ok (.invokevirtual index, 3)) (hcs : cells + 0 ≤ R.cells ∧ slots + 0 ≤ R.slots)
    (kk : ∀ (H1 : Heap) (locs1 : List Loc), va_P D vwCl wn H1 → va_D A wn → va_S A s.heap H1 locs1 → W p l e R s m args below meth c H1 locs1 cells slots Q (F0 m (pc + 3) ls (.long res.1 :: rest))) : W p l e R s m args below meth c H locs cells slots Q (F0 m pc ls st0) := by
  have hDc := hD.sub isC hnC hC
  have hPc := va_Psel hP isC hC
  have hFc := va_free (wc := wc) hD hS hA isC hC
  refine va_calll (va_runV (As := As) (rest := rest) S hM cw ⟨bl_Wz, hv, fun U hU hW => ⟨rfl, ⟨by rw [hU], by rw [hU]; exact hPc, va_K.moved hW.alike hK, hDc.weaken (fun _ _ _ _ => trivial)⟩, SS_at hZ hS hFc hU hW⟩⟩ rfl hn hsize hst (lv_room hW) hdg hcs) hS (fun q _ h => hFc q h) hFc (fun r u t H1 locs1 ht hvm hw hB hz1 hk1 hS => ?_)
  obtain ⟨h1, h2⟩ := hw
  subst h1; subst h2
  obtain ⟨hP1, hK1, hD1⟩ := hB
  rw [ht] at hP1
  obtain ⟨g1, g2⟩ := rw_join hP hD isC isR isN hC hR hnR hdis hk1 hFc hP1 hD1 hN hnN
  exact kk H1 locs1 g1 g2 hS

theorem rs_Vlz {S9 : Type} {res : Int64 × S9} {wo : S9 → va_W} (S : CallFix p m c cc nL s args Ts own) (hM : Met l y ws rm (va_Pc (.ref b :: As) (PWz D K adK adV tF ws0 H.size)) (va_Ql (fun r u => r = res.1 ∧ u = res.2) (fun u t => BW D K (va_A ws0 H.size) (wo u) t) (va_A ws0 H.size)) 0 0 (va_A ws0 H.size)) (cw : CallW R s args own C index y bytes maxL ret ws rm 0 0 n) (hK : va_K D vwCl (tyL K) s) (hP : va_P D vwCl ws0 H) (hD : va_D A ws0) (hS : va_S A s.heap H locs) (hA : ∀ q : Nat, s.heap.size ≤ q → A q) (hZ : SS adK adV tF A s) (hv : ∃ cell : Cell, H[b]? = some cell ∧ cell.vm.isStatics = false ∧ s.vm.findClass C = some cell.cls)
    (hn : As.length = n) (hsize : ls.size = nL) (hst : st0 = As.reverse ++ .ref b :: rest) (hW : (rest.map fun v => v.category).sum ≤ 8) (hdg : decode cc pc = .ok (.invokevirtual index, 3)) (hcs : cells + 0 ≤ R.cells ∧ slots + 0 ≤ R.slots)
    (kk : ∀ (H1 : Heap) (locs1 : List Loc), va_P D vwCl (wo res.2) H1 → va_D A (wo res.2) → va_S A s.heap H1 locs1 → W p l e R s m args below meth c H1 locs1 cells slots Q (F0 m (pc + 3) ls (.long res.1 :: rest))) : W p l e R s m args below meth c H locs cells slots Q (F0 m pc ls st0) := by
  have hPc := hP
  have hDc := hD
  have hFc : ∀ q, va_A ws0 H.size q → A q := va_freeA hD hS hA
  refine va_calll (va_runV (As := As) (rest := rest) S hM cw ⟨bl_Wz, hv, fun U hU hW => ⟨rfl, ⟨by rw [hU], by rw [hU]; exact hPc, va_K.moved hW.alike hK, hDc.weaken (fun _ _ _ _ => trivial)⟩, SS_at hZ hS hFc hU hW⟩⟩ rfl hn hsize hst (lv_room hW) hdg hcs) hS (fun q _ h => hFc q h) hFc (fun r u t H1 locs1 ht hvm hw hB hz1 hk1 hS => ?_)
  obtain ⟨h1, h2⟩ := hw
  subst h1; subst h2
  obtain ⟨hP1, hK1, hD1⟩ := hB
  rw [ht] at hP1
  exact kk H1 locs1 hP1 (hD1.weaken (fun _ q _ h => hFc q.1 h)) hS

theorem rw_Vvz {S9 : Type} {res : S9} {wo : S9 → va_W} {wn : va_W} (S : CallFix p m c cc nL s args Ts own) (hM : Met l y ws rm (va_Pc (.ref b :: As) (PWz D K adK adV tF wc H.size)) (va_Qv (fun u => u = res) (fun u t => BW D K (va_A wc H.size) (wo u) t) (va_A wc H.size)) 0 0 (va_A wc H.size)) (cw : CallW R s args own C index y bytes maxL ret ws rm 0 0 n) (hK : va_K D vwCl (tyL K) s) (hP : va_P D vwCl ws0 H) (hD : va_D A ws0) (hS : va_S A s.heap H locs) (hA : ∀ q : Nat, s.heap.size ≤ q → A q) (hZ : SS adK adV tF A s) (isC isR isN : List Nat) (hC : isC.map (fun i => ws0[i]?) = wc.map some) (hR : isR.map (fun i => ws0[i]?) = (isR.filterMap (fun i => ws0[i]?)).map some) (hnC : va_nd isC = true) (hnR : va_nd isR = true) (hdis : ∀ i ∈ isR, i ∉ isC) (hN : isN.map (fun i => (isR.filterMap (fun i => ws0[i]?) ++ wo res)[i]?) = wn.map some) (hnN : va_nd isN = true) (hv : ∃ cell : Cell, H[b]? = some cell ∧ cell.vm.isStatics = false ∧ s.vm.findClass C = some cell.cls)
    (hn : As.length = n) (hsize : ls.size = nL) (hst : st0 = As.reverse ++ .ref b :: rest) (hW : (rest.map fun v => v.category).sum ≤ 8) (hdg : decode cc pc = .ok (.invokevirtual index, 3)) (hcs : cells + 0 ≤ R.cells ∧ slots + 0 ≤ R.slots)
    (kk : ∀ (H1 : Heap) (locs1 : List Loc), va_P D vwCl wn H1 → va_D A wn → va_S A s.heap H1 locs1 → W p l e R s m args below meth c H1 locs1 cells slots Q (F0 m (pc + 3) ls (rest))) : W p l e R s m args below meth c H locs cells slots Q (F0 m pc ls st0) := by
  have hDc := hD.sub isC hnC hC
  have hPc := va_Psel hP isC hC
  have hFc := va_free (wc := wc) hD hS hA isC hC
  refine va_callv (va_runV (As := As) (rest := rest) S hM cw ⟨bl_Wz, hv, fun U hU hW => ⟨rfl, ⟨by rw [hU], by rw [hU]; exact hPc, va_K.moved hW.alike hK, hDc.weaken (fun _ _ _ _ => trivial)⟩, SS_at hZ hS hFc hU hW⟩⟩ rfl hn hsize hst (lv_room hW) hdg hcs) hS (fun q _ h => hFc q h) hFc (fun u t H1 locs1 ht hvm hw hB hz1 hk1 hS => ?_)
  subst hw
  obtain ⟨hP1, hK1, hD1⟩ := hB
  rw [ht] at hP1
  obtain ⟨g1, g2⟩ := rw_join hP hD isC isR isN hC hR hnR hdis hk1 hFc hP1 hD1 hN hnN
  exact kk H1 locs1 g1 g2 hS

theorem rs_Vvz {S9 : Type} {res : S9} {wo : S9 → va_W} (S : CallFix p m c cc nL s args Ts own) (hM : Met l y ws rm (va_Pc (.ref b :: As) (PWz D K adK adV tF ws0 H.size)) (va_Qv (fun u => u = res) (fun u t => BW D K (va_A ws0 H.size) (wo u) t) (va_A ws0 H.size)) 0 0 (va_A ws0 H.size)) (cw : CallW R s args own C index y bytes maxL ret ws rm 0 0 n) (hK : va_K D vwCl (tyL K) s) (hP : va_P D vwCl ws0 H) (hD : va_D A ws0) (hS : va_S A s.heap H locs) (hA : ∀ q : Nat, s.heap.size ≤ q → A q) (hZ : SS adK adV tF A s) (hv : ∃ cell : Cell, H[b]? = some cell ∧ cell.vm.isStatics = false ∧ s.vm.findClass C = some cell.cls)
    (hn : As.length = n) (hsize : ls.size = nL) (hst : st0 = As.reverse ++ .ref b :: rest) (hW : (rest.map fun v => v.category).sum ≤ 8) (hdg : decode cc pc = .ok (.invokevirtual index, 3)) (hcs : cells + 0 ≤ R.cells ∧ slots + 0 ≤ R.slots)
    (kk : ∀ (H1 : Heap) (locs1 : List Loc), va_P D vwCl (wo res) H1 → va_D A (wo res) → va_S A s.heap H1 locs1 → W p l e R s m args below meth c H1 locs1 cells slots Q (F0 m (pc + 3) ls (rest))) : W p l e R s m args below meth c H locs cells slots Q (F0 m pc ls st0) := by
  have hPc := hP
  have hDc := hD
  have hFc : ∀ q, va_A ws0 H.size q → A q := va_freeA hD hS hA
  refine va_callv (va_runV (As := As) (rest := rest) S hM cw ⟨bl_Wz, hv, fun U hU hW => ⟨rfl, ⟨by rw [hU], by rw [hU]; exact hPc, va_K.moved hW.alike hK, hDc.weaken (fun _ _ _ _ => trivial)⟩, SS_at hZ hS hFc hU hW⟩⟩ rfl hn hsize hst (lv_room hW) hdg hcs) hS (fun q _ h => hFc q h) hFc (fun u t H1 locs1 ht hvm hw hB hz1 hk1 hS => ?_)
  subst hw
  obtain ⟨hP1, hK1, hD1⟩ := hB
  rw [ht] at hP1
  exact kk H1 locs1 hP1 (hD1.weaken (fun _ q _ h => hFc q.1 h)) hS

theorem ro_Siz {res : Int32} (S : CallFix p m c cc nL s args Ts own) (hM : Met l y ws rm (va_Pc As (PRz D K adK adV tF wc)) (va_Qi (fun r (_ : Unit) => r = res) BN nOne) 0 0 nOne) (cw : CallB R s args own index y bytes maxL ret ws rm 0 0 n ∧ (Cond.static y).before args s = true) (hK : va_K D vwCl (tyL K) s) (hP : va_P D vwCl ws0 H) (hS : va_S A s.heap H locs) (hZ : SS adK adV tF A s) (hPc : va_P D vwCl wc H) 
    (hn : As.length = n) (hsize : ls.size = nL) (hst : st0 = As.reverse ++ rest) (hW : (rest.map fun v => v.category).sum ≤ 8) (hdg : decode cc pc = .ok (.invokestatic index, 3)) (hcs : cells + 0 ≤ R.cells ∧ slots + 0 ≤ R.slots)
    (kk : ∀ (H1 : Heap) (locs1 : List Loc), va_P D vwCl ws0 H1 → va_S A s.heap H1 locs1 → W p l e R s m args below meth c H1 locs1 cells slots Q (F0 m (pc + 3) ls (.int res :: rest))) : W p l e R s m args below meth c H locs cells slots Q (F0 m pc ls st0) := by
  refine va_calli (va_runS (As := As) (rest := rest) S hM cw ⟨bl_Rz, fun U hU hW => ⟨rfl, ⟨by rw [hU]; exact hPc, va_K.moved hW.alike hK⟩, SS_at hZ hS (fun _ h => nO_e h) hU hW⟩⟩ rfl hn hsize hst (lv_room hW) hdg hcs) hS (fun q _ h => h.elim) (fun q h => h.elim) (fun r u t H1 locs1 ht hvm hw hB hz1 hk1 hS => ?_)
  subst hw
  exact kk H1 locs1 (hP.kept (fun k q h => hk1 q.1 (hP k q h).lt (fun z => z))) hS

theorem rw_Siz {S9 : Type} {res : Int32 × S9} {wo : S9 → va_W} {wn : va_W} (S : CallFix p m c cc nL s args Ts own) (hM : Met l y ws rm (va_Pc As (PWz D K adK adV tF wc H.size)) (va_Qi (fun r u => r = res.1 ∧ u = res.2) (fun u t => BW D K (va_A wc H.size) (wo u) t) (va_A wc H.size)) 0 0 (va_A wc H.size)) (cw : CallB R s args own index y bytes maxL ret ws rm 0 0 n ∧ (Cond.static y).before args s = true) (hK : va_K D vwCl (tyL K) s) (hP : va_P D vwCl ws0 H) (hD : va_D A ws0) (hS : va_S A s.heap H locs) (hA : ∀ q : Nat, s.heap.size ≤ q → A q) (hZ : SS adK adV tF A s) (isC isR isN : List Nat) (hC : isC.map (fun i => ws0[i]?) = wc.map some) (hR : isR.map (fun i => ws0[i]?) = (isR.filterMap (fun i => ws0[i]?)).map some) (hnC : va_nd isC = true) (hnR : va_nd isR = true) (hdis : ∀ i ∈ isR, i ∉ isC) (hN : isN.map (fun i => (isR.filterMap (fun i => ws0[i]?) ++ wo res.2)[i]?) = wn.map some) (hnN : va_nd isN = true) 
    (hn : As.length = n) (hsize : ls.size = nL) (hst : st0 = As.reverse ++ rest) (hW : (rest.map fun v => v.category).sum ≤ 8) (hdg : decode cc pc = .ok (.invokestatic index, 3)) (hcs : cells + 0 ≤ R.cells ∧ slots + 0 ≤ R.slots)
    (kk : ∀ (H1 : Heap) (locs1 : List Loc), va_P D vwCl wn H1 → va_D A wn → va_S A s.heap H1 locs1 → W p l e R s m args below meth c H1 locs1 cells slots Q (F0 m (pc + 3) ls (.int res.1 :: rest))) : W p l e R s m args below meth c H locs cells slots Q (F0 m pc ls st0) := by
  have hDc := hD.sub isC hnC hC
  have hPc := va_Psel hP isC hC
  have hFc := va_free (wc := wc) hD hS hA isC hC
  refine va_calli (va_runS (As := As) (rest := rest) S hM cw ⟨bl_Wz, fun U hU hW => ⟨rfl, ⟨by rw [hU], by rw [hU]; exact hPc, va_K.moved hW.alike hK, hDc.weaken (fun _ _ _ _ => trivial)⟩, SS_at hZ hS hFc hU hW⟩⟩ rfl hn hsize hst (lv_room hW) hdg hcs) hS (fun q _ h => hFc q h) hFc (fun r u t H1 locs1 ht hvm hw hB hz1 hk1 hS => ?_)
  obtain ⟨h1, h2⟩ := hw
  subst h1; subst h2
  obtain ⟨hP1, hK1, hD1⟩ := hB
  rw [ht] at hP1
  obtain ⟨g1, g2⟩ := rw_join hP hD isC isR isN hC hR hnR hdis hk1 hFc hP1 hD1 hN hnN
  exact kk H1 locs1 g1 g2 hS

theorem rs_Siz {S9 : Type} {res : Int32 × S9} {wo : S9 → va_W} (S : CallFix p m c cc nL s args Ts own) (hM : Met l y ws rm (va_Pc As (PWz D K adK adV tF ws0 H.size)) (va_Qi (fun r u => r = res.1 ∧ u = res.2) (fun u t => BW D K (va_A ws0 H.size) (wo u) t) (va_A ws0 H.size)) 0 0 (va_A ws0 H.size)) (cw : CallB R s args own index y bytes maxL ret ws rm 0 0 n ∧ (Cond.static y).before args s = true) (hK : va_K D vwCl (tyL K) s) (hP : va_P D vwCl ws0 H) (hD : va_D A ws0) (hS : va_S A s.heap H locs) (hA : ∀ q : Nat, s.heap.size ≤ q → A q) (hZ : SS adK adV tF A s) 
    (hn : As.length = n) (hsize : ls.size = nL) (hst : st0 = As.reverse ++ rest) (hW : (rest.map fun v => v.category).sum ≤ 8) (hdg : decode cc pc = .ok (.invokestatic index, 3)) (hcs : cells + 0 ≤ R.cells ∧ slots + 0 ≤ R.slots)
    (kk : ∀ (H1 : Heap) (locs1 : List Loc), va_P D vwCl (wo res.2) H1 → va_D A (wo res.2) → va_S A s.heap H1 locs1 → W p l e R s m args below meth c H1 locs1 cells slots Q (F0 m (pc + 3) ls (.int res.1 :: rest))) : W p l e R s m args below meth c H locs cells slots Q (F0 m pc ls st0) := by
  have hPc := hP
  have hDc := hD
  have hFc : ∀ q, va_A ws0 H.size q → A q := va_freeA hD hS hA
  refine va_calli (va_runS (As := As) (rest := rest) S hM cw ⟨bl_Wz, fun U hU hW => ⟨rfl, ⟨by rw [hU], by rw [hU]; exact hPc, va_K.moved hW.alike hK, hDc.weaken (fun _ _ _ _ => trivial)⟩, SS_at hZ hS hFc hU hW⟩⟩ rfl hn hsize hst (lv_room hW) hdg hcs) hS (fun q _ h => hFc q h) hFc (fun r u t H1 locs1 ht hvm hw hB hz1 hk1 hS => ?_)
  obtain ⟨h1, h2⟩ := hw
  subst h1; subst h2
  obtain ⟨hP1, hK1, hD1⟩ := hB
  rw [ht] at hP1
  exact kk H1 locs1 hP1 (hD1.weaken (fun _ q _ h => hFc q.1 h)) hS

theorem ro_Slz {res : Int64} (S : CallFix p m c cc nL s args Ts own) (hM : Met l y ws rm (va_Pc As (PRz D K adK adV tF wc)) (va_Ql (fun r (_ : Unit) => r = res) BN nOne) 0 0 nOne) (cw : CallB R s args own index y bytes maxL ret ws rm 0 0 n ∧ (Cond.static y).before args s = true) (hK : va_K D vwCl (tyL K) s) (hP : va_P D vwCl ws0 H) (hS : va_S A s.heap H locs) (hZ : SS adK adV tF A s) (hPc : va_P D vwCl wc H) 
    (hn : As.length = n) (hsize : ls.size = nL) (hst : st0 = As.reverse ++ rest) (hW : (rest.map fun v => v.category).sum ≤ 8) (hdg : decode cc pc = .ok (.invokestatic index, 3)) (hcs : cells + 0 ≤ R.cells ∧ slots + 0 ≤ R.slots)
    (kk : ∀ (H1 : Heap) (locs1 : List Loc), va_P D vwCl ws0 H1 → va_S A s.heap H1 locs1 → W p l e R s m args below meth c H1 locs1 cells slots Q (F0 m (pc + 3) ls (.long res :: rest))) : W p l e R s m args below meth c H locs cells slots Q (F0 m pc ls st0) := by
  refine va_calll (va_runS (As := As) (rest := rest) S hM cw ⟨bl_Rz, fun U hU hW => ⟨rfl, ⟨by rw [hU]; exact hPc, va_K.moved hW.alike hK⟩, SS_at hZ hS (fun _ h => nO_e h) hU hW⟩⟩ rfl hn hsize hst (lv_room hW) hdg hcs) hS (fun q _ h => h.elim) (fun q h => h.elim) (fun r u t H1 locs1 ht hvm hw hB hz1 hk1 hS => ?_)
  subst hw
  exact kk H1 locs1 (hP.kept (fun k q h => hk1 q.1 (hP k q h).lt (fun z => z))) hS

theorem rw_Slz {S9 : Type} {res : Int64 × S9} {wo : S9 → va_W} {wn : va_W} (S : CallFix p m c cc nL s args Ts own) (hM : Met l y ws rm (va_Pc As (PWz D K adK adV tF wc H.size)) (va_Ql (fun r u => r = res.1 ∧ u = res.2) (fun u t => BW D K (va_A wc H.size) (wo u) t) (va_A wc H.size)) 0 0 (va_A wc H.size)) (cw : CallB R s args own index y bytes maxL ret ws rm 0 0 n ∧ (Cond.static y).before args s = true) (hK : va_K D vwCl (tyL K) s) (hP : va_P D vwCl ws0 H) (hD : va_D A ws0) (hS : va_S A s.heap H locs) (hA : ∀ q : Nat, s.heap.size ≤ q → A q) (hZ : SS adK adV tF A s) (isC isR isN : List Nat) (hC : isC.map (fun i => ws0[i]?) = wc.map some) (hR : isR.map (fun i => ws0[i]?) = (isR.filterMap (fun i => ws0[i]?)).map some) (hnC : va_nd isC = true) (hnR : va_nd isR = true) (hdis : ∀ i ∈ isR, i ∉ isC) (hN : isN.map (fun i => (isR.filterMap (fun i => ws0[i]?) ++ wo res.2)[i]?) = wn.map some) (hnN : va_nd isN = true) 
    (hn : As.length = n) (hsize : ls.size = nL) (hst : st0 = As.reverse ++ rest) (hW : (rest.map fun v => v.category).sum ≤ 8) (hdg : decode cc pc = .ok (.invokestatic index, 3)) (hcs : cells + 0 ≤ R.cells ∧ slots + 0 ≤ R.slots)
    (kk : ∀ (H1 : Heap) (locs1 : List Loc), va_P D vwCl wn H1 → va_D A wn → va_S A s.heap H1 locs1 → W p l e R s m args below meth c H1 locs1 cells slots Q (F0 m (pc + 3) ls (.long res.1 :: rest))) : W p l e R s m args below meth c H locs cells slots Q (F0 m pc ls st0) := by
  have hDc := hD.sub isC hnC hC
  have hPc := va_Psel hP isC hC
  have hFc := va_free (wc := wc) hD hS hA isC hC
  refine va_calll (va_runS (As := As) (rest := rest) S hM cw ⟨bl_Wz, fun U hU hW => ⟨rfl, ⟨by rw [hU], by rw [hU]; exact hPc, va_K.moved hW.alike hK, hDc.weaken (fun _ _ _ _ => trivial)⟩, SS_at hZ hS hFc hU hW⟩⟩ rfl hn hsize hst (lv_room hW) hdg hcs) hS (fun q _ h => hFc q h) hFc (fun r u t H1 locs1 ht hvm hw hB hz1 hk1 hS => ?_)
  obtain ⟨h1, h2⟩ := hw
  subst h1; subst h2
  obtain ⟨hP1, hK1, hD1⟩ := hB
  rw [ht] at hP1
  obtain ⟨g1, g2⟩ := rw_join hP hD isC isR isN hC hR hnR hdis hk1 hFc hP1 hD1 hN hnN
  exact kk H1 locs1 g1 g2 hS

theorem rs_Slz {S9 : Type} {res : Int64 × S9} {wo : S9 → va_W} (S : CallFix p m c cc nL s args Ts own) (hM : Met l y ws rm (va_Pc As (PWz D K adK adV tF ws0 H.size)) (va_Ql (fun r u => r = res.1 ∧ u = res.2) (fun u t => BW D K (va_A ws0 H.size) (wo u) t) (va_A ws0 H.size)) 0 0 (va_A ws0 H.size)) (cw : CallB R s args own index y bytes maxL ret ws rm 0 0 n ∧ (Cond.static y).before args s = true) (hK : va_K D vwCl (tyL K) s) (hP : va_P D vwCl ws0 H) (hD : va_D A ws0) (hS : va_S A s.heap H locs) (hA : ∀ q : Nat, s.heap.size ≤ q → A q) (hZ : SS adK adV tF A s) 
    (hn : As.length = n) (hsize : ls.size = nL) (hst : st0 = As.reverse ++ rest) (hW : (rest.map fun v => v.category).sum ≤ 8) (hdg : decode cc pc = .ok (.invokestatic index, 3)) (hcs : cells + 0 ≤ R.cells ∧ slots + 0 ≤ R.slots)
    (kk : ∀ (H1 : Heap) (locs1 : List Loc), va_P D vwCl (wo res.2) H1 → va_D A (wo res.2) → va_S A s.heap H1 locs1 → W p l e R s m args below meth c H1 locs1 cells slots Q (F0 m (pc + 3) ls (.long res.1 :: rest))) : W p l e R s m args below meth c H locs cells slots Q (F0 m pc ls st0) := by
  have hPc := hP
  have hDc := hD
  have hFc : ∀ q, va_A ws0 H.size q → A q := va_freeA hD hS hA
  refine va_calll (va_runS (As := As) (rest := rest) S hM cw ⟨bl_Wz, fun U hU hW => ⟨rfl, ⟨by rw [hU], by rw [hU]; exact hPc, va_K.moved hW.alike hK, hDc.weaken (fun _ _ _ _ => trivial)⟩, SS_at hZ hS hFc hU hW⟩⟩ rfl hn hsize hst (lv_room hW) hdg hcs) hS (fun q _ h => hFc q h) hFc (fun r u t H1 locs1 ht hvm hw hB hz1 hk1 hS => ?_)
  obtain ⟨h1, h2⟩ := hw
  subst h1; subst h2
  obtain ⟨hP1, hK1, hD1⟩ := hB
  rw [ht] at hP1
  exact kk H1 locs1 hP1 (hD1.weaken (fun _ q _ h => hFc q.1 h)) hS

theorem rw_Svz {S9 : Type} {res : S9} {wo : S9 → va_W} {wn : va_W} (S : CallFix p m c cc nL s args Ts own) (hM : Met l y ws rm (va_Pc As (PWz D K adK adV tF wc H.size)) (va_Qv (fun u => u = res) (fun u t => BW D K (va_A wc H.size) (wo u) t) (va_A wc H.size)) 0 0 (va_A wc H.size)) (cw : CallB R s args own index y bytes maxL ret ws rm 0 0 n ∧ (Cond.static y).before args s = true) (hK : va_K D vwCl (tyL K) s) (hP : va_P D vwCl ws0 H) (hD : va_D A ws0) (hS : va_S A s.heap H locs) (hA : ∀ q : Nat, s.heap.size ≤ q → A q) (hZ : SS adK adV tF A s) (isC isR isN : List Nat) (hC : isC.map (fun i => ws0[i]?) = wc.map some) (hR : isR.map (fun i => ws0[i]?) = (isR.filterMap (fun i => ws0[i]?)).map some) (hnC : va_nd isC = true) (hnR : va_nd isR = true) (hdis : ∀ i ∈ isR, i ∉ isC) (hN : isN.map (fun i => (isR.filterMap (fun i => ws0[i]?) ++ wo res)[i]?) = wn.map some) (hnN : va_nd isN = true) 
    (hn : As.length = n) (hsize : ls.size = nL) (hst : st0 = As.reverse ++ rest) (hW : (rest.map fun v => v.category).sum ≤ 8) (hdg : decode cc pc = .ok (.invokestatic index, 3)) (hcs : cells + 0 ≤ R.cells ∧ slots + 0 ≤ R.slots)
    (kk : ∀ (H1 : Heap) (locs1 : List Loc), va_P D vwCl wn H1 → va_D A wn → va_S A s.heap H1 locs1 → W p l e R s m args below meth c H1 locs1 cells slots Q (F0 m (pc + 3) ls (rest))) : W p l e R s m args below meth c H locs cells slots Q (F0 m pc ls st0) := by
  have hDc := hD.sub isC hnC hC
  have hPc := va_Psel hP isC hC
  have hFc := va_free (wc := wc) hD hS hA isC hC
  refine va_callv (va_runS (As := As) (rest := rest) S hM cw ⟨bl_Wz, fun U hU hW => ⟨rfl, ⟨by rw [hU], by rw [hU]; exact hPc, va_K.moved hW.alike hK, hDc.weaken (fun _ _ _ _ => trivial)⟩, SS_at hZ hS hFc hU hW⟩⟩ rfl hn hsize hst (lv_room hW) hdg hcs) hS (fun q _ h => hFc q h) hFc (fun u t H1 locs1 ht hvm hw hB hz1 hk1 hS => ?_)
  subst hw
  obtain ⟨hP1, hK1, hD1⟩ := hB
  rw [ht] at hP1
  obtain ⟨g1, g2⟩ := rw_join hP hD isC isR isN hC hR hnR hdis hk1 hFc hP1 hD1 hN hnN
  exact kk H1 locs1 g1 g2 hS

theorem rs_Svz {S9 : Type} {res : S9} {wo : S9 → va_W} (S : CallFix p m c cc nL s args Ts own) (hM : Met l y ws rm (va_Pc As (PWz D K adK adV tF ws0 H.size)) (va_Qv (fun u => u = res) (fun u t => BW D K (va_A ws0 H.size) (wo u) t) (va_A ws0 H.size)) 0 0 (va_A ws0 H.size)) (cw : CallB R s args own index y bytes maxL ret ws rm 0 0 n ∧ (Cond.static y).before args s = true) (hK : va_K D vwCl (tyL K) s) (hP : va_P D vwCl ws0 H) (hD : va_D A ws0) (hS : va_S A s.heap H locs) (hA : ∀ q : Nat, s.heap.size ≤ q → A q) (hZ : SS adK adV tF A s) 
    (hn : As.length = n) (hsize : ls.size = nL) (hst : st0 = As.reverse ++ rest) (hW : (rest.map fun v => v.category).sum ≤ 8) (hdg : decode cc pc = .ok (.invokestatic index, 3)) (hcs : cells + 0 ≤ R.cells ∧ slots + 0 ≤ R.slots)
    (kk : ∀ (H1 : Heap) (locs1 : List Loc), va_P D vwCl (wo res) H1 → va_D A (wo res) → va_S A s.heap H1 locs1 → W p l e R s m args below meth c H1 locs1 cells slots Q (F0 m (pc + 3) ls (rest))) : W p l e R s m args below meth c H locs cells slots Q (F0 m pc ls st0) := by
  have hPc := hP
  have hDc := hD
  have hFc : ∀ q, va_A ws0 H.size q → A q := va_freeA hD hS hA
  refine va_callv (va_runS (As := As) (rest := rest) S hM cw ⟨bl_Wz, fun U hU hW => ⟨rfl, ⟨by rw [hU], by rw [hU]; exact hPc, va_K.moved hW.alike hK, hDc.weaken (fun _ _ _ _ => trivial)⟩, SS_at hZ hS hFc hU hW⟩⟩ rfl hn hsize hst (lv_room hW) hdg hcs) hS (fun q _ h => hFc q h) hFc (fun u t H1 locs1 ht hvm hw hB hz1 hk1 hS => ?_)
  subst hw
  obtain ⟨hP1, hK1, hD1⟩ := hB
  rw [ht] at hP1
  exact kk H1 locs1 hP1 (hD1.weaken (fun _ q _ h => hFc q.1 h)) hS

theorem rk_Viz {S9 : Type} {res : Int32 × S9} {wo : S9 → va_W} {wn : va_W} (cs ck new cn : List va_W) (S : CallFix p m c cc nL s args Ts own) (hM : Met l y ws rm (va_Pc (.ref b :: As) (PWz D K adK adV tF wc H.size)) (va_Qi (fun r u => r = res.1 ∧ u = res.2) (fun u t => BW D K (va_A wc H.size) (wo u) t) (va_A wc H.size)) 0 0 (va_A wc H.size)) (cw : CallW R s args own C index y bytes maxL ret ws rm 0 0 n) (hK : va_K D vwCl (tyL K) s) (hP : va_P D vwCl ws0 H) (hD : va_D A ws0) (hS : va_S A s.heap H locs) (hA : ∀ q : Nat, s.heap.size ≤ q → A q) (hZ : SS adK adV tF A s) (is : List Nat) (h0 : cs.flatten = ws0) (hC : is.map (fun i => cs[i]?) = ck.map some) (hnd : va_nd is = true) (hc : ck.flatten = wc) (hw : new.flatten = wo res.2) (hlen : new.length = ck.length) (hN1 : sttG cs (is.zip new) = cn) (hN : cn.flatten = wn) (hv : ∃ cell : Cell, H[b]? = some cell ∧ cell.vm.isStatics = false ∧ s.vm.findClass C = some cell.cls)
    (hn : As.length = n) (hsize : ls.size = nL) (hst : st0 = As.reverse ++ .ref b :: rest) (hW : (rest.map fun v => v.category).sum ≤ 8) (hdg : decode cc pc = .ok (.invokevirtual index, 3)) (hcs : cells + 0 ≤ R.cells ∧ slots + 0 ≤ R.slots)
    (kk : ∀ (H1 : Heap) (locs1 : List Loc), va_P D vwCl wn H1 → va_D A wn → va_S A s.heap H1 locs1 → W p l e R s m args below meth c H1 locs1 cells slots Q (F0 m (pc + 3) ls (.int res.1 :: rest))) : W p l e R s m args below meth c H locs cells slots Q (F0 m pc ls st0) := by
  subst h0; subst hc
  have hDL := DL_of hD
  have hDc := DL_to (DL_sel hDL hC hnd)
  have hPc := va_PL hP rfl is hC rfl
  have hFc : ∀ q, va_A ck.flatten H.size q → A q := va_freeA hDc hS hA
  refine va_calli (va_runV (As := As) (rest := rest) S hM cw ⟨bl_Wz, hv, fun U hU hW => ⟨rfl, ⟨by rw [hU], by rw [hU]; exact hPc, va_K.moved hW.alike hK, hDc.weaken (fun _ _ _ _ => trivial)⟩, SS_at hZ hS hFc hU hW⟩⟩ rfl hn hsize hst (lv_room hW) hdg hcs) hS (fun q _ h => hFc q h) hFc (fun r u t H1 locs1 ht hvm hw9 hB hz1 hk1 hS => ?_)
  obtain ⟨h1, h2⟩ := hw9
  subst h1; subst h2
  obtain ⟨hP1, hK1, hD1⟩ := hB
  rw [ht] at hP1
  rw [← hw] at hP1 hD1
  obtain ⟨g1, g2⟩ := rk_join hP hDL hC hlen hk1 hFc hP1 hD1
  rw [hN1, hN] at g1 g2
  exact kk H1 locs1 g1 g2 hS

theorem rk_Vlz {S9 : Type} {res : Int64 × S9} {wo : S9 → va_W} {wn : va_W} (cs ck new cn : List va_W) (S : CallFix p m c cc nL s args Ts own) (hM : Met l y ws rm (va_Pc (.ref b :: As) (PWz D K adK adV tF wc H.size)) (va_Ql (fun r u => r = res.1 ∧ u = res.2) (fun u t => BW D K (va_A wc H.size) (wo u) t) (va_A wc H.size)) 0 0 (va_A wc H.size)) (cw : CallW R s args own C index y bytes maxL ret ws rm 0 0 n) (hK : va_K D vwCl (tyL K) s) (hP : va_P D vwCl ws0 H) (hD : va_D A ws0) (hS : va_S A s.heap H locs) (hA : ∀ q : Nat, s.heap.size ≤ q → A q) (hZ : SS adK adV tF A s) (is : List Nat) (h0 : cs.flatten = ws0) (hC : is.map (fun i => cs[i]?) = ck.map some) (hnd : va_nd is = true) (hc : ck.flatten = wc) (hw : new.flatten = wo res.2) (hlen : new.length = ck.length) (hN1 : sttG cs (is.zip new) = cn) (hN : cn.flatten = wn) (hv : ∃ cell : Cell, H[b]? = some cell ∧ cell.vm.isStatics = false ∧ s.vm.findClass C = some cell.cls)
    (hn : As.length = n) (hsize : ls.size = nL) (hst : st0 = As.reverse ++ .ref b :: rest) (hW : (rest.map fun v => v.category).sum ≤ 8) (hdg : decode cc pc = .ok (.invokevirtual index, 3)) (hcs : cells + 0 ≤ R.cells ∧ slots + 0 ≤ R.slots)
    (kk : ∀ (H1 : Heap) (locs1 : List Loc), va_P D vwCl wn H1 → va_D A wn → va_S A s.heap H1 locs1 → W p l e R s m args below meth c H1 locs1 cells slots Q (F0 m (pc + 3) ls (.long res.1 :: rest))) : W p l e R s m args below meth c H locs cells slots Q (F0 m pc ls st0) := by
  subst h0; subst hc
  have hDL := DL_of hD
  have hDc := DL_to (DL_sel hDL hC hnd)
  have hPc := va_PL hP rfl is hC rfl
  have hFc : ∀ q, va_A ck.flatten H.size q → A q := va_freeA hDc hS hA
  refine va_calll (va_runV (As := As) (rest := rest) S hM cw ⟨bl_Wz, hv, fun U hU hW => ⟨rfl, ⟨by rw [hU], by rw [hU]; exact hPc, va_K.moved hW.alike hK, hDc.weaken (fun _ _ _ _ => trivial)⟩, SS_at hZ hS hFc hU hW⟩⟩ rfl hn hsize hst (lv_room hW) hdg hcs) hS (fun q _ h => hFc q h) hFc (fun r u t H1 locs1 ht hvm hw9 hB hz1 hk1 hS => ?_)
  obtain ⟨h1, h2⟩ := hw9
  subst h1; subst h2
  obtain ⟨hP1, hK1, hD1⟩ := hB
  rw [ht] at hP1
  rw [← hw] at hP1 hD1
  obtain ⟨g1, g2⟩ := rk_join hP hDL hC hlen hk1 hFc hP1 hD1
  rw [hN1, hN] at g1 g2
  exact kk H1 locs1 g1 g2 hS

theorem rk_Vvz {S9 : Type} {res : S9} {wo : S9 → va_W} {wn : va_W} (cs ck new cn : List va_W) (S : CallFix p m c cc nL s args Ts own) (hM : Met l y ws rm (va_Pc (.ref b :: As) (PWz D K adK adV tF wc H.size)) (va_Qv (fun u => u = res) (fun u t => BW D K (va_A wc H.size) (wo u) t) (va_A wc H.size)) 0 0 (va_A wc H.size)) (cw : CallW R s args own C index y bytes maxL ret ws rm 0 0 n) (hK : va_K D vwCl (tyL K) s) (hP : va_P D vwCl ws0 H) (hD : va_D A ws0) (hS : va_S A s.heap H locs) (hA : ∀ q : Nat, s.heap.size ≤ q → A q) (hZ : SS adK adV tF A s) (is : List Nat) (h0 : cs.flatten = ws0) (hC : is.map (fun i => cs[i]?) = ck.map some) (hnd : va_nd is = true) (hc : ck.flatten = wc) (hw : new.flatten = wo res) (hlen : new.length = ck.length) (hN1 : sttG cs (is.zip new) = cn) (hN : cn.flatten = wn) (hv : ∃ cell : Cell, H[b]? = some cell ∧ cell.vm.isStatics = false ∧ s.vm.findClass C = some cell.cls)
    (hn : As.length = n) (hsize : ls.size = nL) (hst : st0 = As.reverse ++ .ref b :: rest) (hW : (rest.map fun v => v.category).sum ≤ 8) (hdg : decode cc pc = .ok (.invokevirtual index, 3)) (hcs : cells + 0 ≤ R.cells ∧ slots + 0 ≤ R.slots)
    (kk : ∀ (H1 : Heap) (locs1 : List Loc), va_P D vwCl wn H1 → va_D A wn → va_S A s.heap H1 locs1 → W p l e R s m args below meth c H1 locs1 cells slots Q (F0 m (pc + 3) ls (rest))) : W p l e R s m args below meth c H locs cells slots Q (F0 m pc ls st0) := by
  subst h0; subst hc
  have hDL := DL_of hD
  have hDc := DL_to (DL_sel hDL hC hnd)
  have hPc := va_PL hP rfl is hC rfl
  have hFc : ∀ q, va_A ck.flatten H.size q → A q := va_freeA hDc hS hA
  refine va_callv (va_runV (As := As) (rest := rest) S hM cw ⟨bl_Wz, hv, fun U hU hW => ⟨rfl, ⟨by rw [hU], by rw [hU]; exact hPc, va_K.moved hW.alike hK, hDc.weaken (fun _ _ _ _ => trivial)⟩, SS_at hZ hS hFc hU hW⟩⟩ rfl hn hsize hst (lv_room hW) hdg hcs) hS (fun q _ h => hFc q h) hFc (fun u t H1 locs1 ht hvm hw9 hB hz1 hk1 hS => ?_)
  subst hw9
  obtain ⟨hP1, hK1, hD1⟩ := hB
  rw [ht] at hP1
  rw [← hw] at hP1 hD1
  obtain ⟨g1, g2⟩ := rk_join hP hDL hC hlen hk1 hFc hP1 hD1
  rw [hN1, hN] at g1 g2
  exact kk H1 locs1 g1 g2 hS

theorem rk_Siz {S9 : Type} {res : Int32 × S9} {wo : S9 → va_W} {wn : va_W} (cs ck new cn : List va_W) (S : CallFix p m c cc nL s args Ts own) (hM : Met l y ws rm (va_Pc As (PWz D K adK adV tF wc H.size)) (va_Qi (fun r u => r = res.1 ∧ u = res.2) (fun u t => BW D K (va_A wc H.size) (wo u) t) (va_A wc H.size)) 0 0 (va_A wc H.size)) (cw : CallB R s args own index y bytes maxL ret ws rm 0 0 n ∧ (Cond.static y).before args s = true) (hK : va_K D vwCl (tyL K) s) (hP : va_P D vwCl ws0 H) (hD : va_D A ws0) (hS : va_S A s.heap H locs) (hA : ∀ q : Nat, s.heap.size ≤ q → A q) (hZ : SS adK adV tF A s) (is : List Nat) (h0 : cs.flatten = ws0) (hC : is.map (fun i => cs[i]?) = ck.map some) (hnd : va_nd is = true) (hc : ck.flatten = wc) (hw : new.flatten = wo res.2) (hlen : new.length = ck.length) (hN1 : sttG cs (is.zip new) = cn) (hN : cn.flatten = wn) 
    (hn : As.length = n) (hsize : ls.size = nL) (hst : st0 = As.reverse ++ rest) (hW : (rest.map fun v => v.category).sum ≤ 8) (hdg : decode cc pc = .ok (.invokestatic index, 3)) (hcs : cells + 0 ≤ R.cells ∧ slots + 0 ≤ R.slots)
    (kk : ∀ (H1 : Heap) (locs1 : List Loc), va_P D vwCl wn H1 → va_D A wn → va_S A s.heap H1 locs1 → W p l e R s m args below meth c H1 locs1 cells slots Q (F0 m (pc + 3) ls (.int res.1 :: rest))) : W p l e R s m args below meth c H locs cells slots Q (F0 m pc ls st0) := by
  subst h0; subst hc
  have hDL := DL_of hD
  have hDc := DL_to (DL_sel hDL hC hnd)
  have hPc := va_PL hP rfl is hC rfl
  have hFc : ∀ q, va_A ck.flatten H.size q → A q := va_freeA hDc hS hA
  refine va_calli (va_runS (As := As) (rest := rest) S hM cw ⟨bl_Wz, fun U hU hW => ⟨rfl, ⟨by rw [hU], by rw [hU]; exact hPc, va_K.moved hW.alike hK, hDc.weaken (fun _ _ _ _ => trivial)⟩, SS_at hZ hS hFc hU hW⟩⟩ rfl hn hsize hst (lv_room hW) hdg hcs) hS (fun q _ h => hFc q h) hFc (fun r u t H1 locs1 ht hvm hw9 hB hz1 hk1 hS => ?_)
  obtain ⟨h1, h2⟩ := hw9
  subst h1; subst h2
  obtain ⟨hP1, hK1, hD1⟩ := hB
  rw [ht] at hP1
  rw [← hw] at hP1 hD1
  obtain ⟨g1, g2⟩ := rk_join hP hDL hC hlen hk1 hFc hP1 hD1
  rw [hN1, hN] at g1 g2
  exact kk H1 locs1 g1 g2 hS

theorem rk_Slz {S9 : Type} {res : Int64 × S9} {wo : S9 → va_W} {wn : va_W} (cs ck new cn : List va_W) (S : CallFix p m c cc nL s args Ts own) (hM : Met l y ws rm (va_Pc As (PWz D K adK adV tF wc H.size)) (va_Ql (fun r u => r = res.1 ∧ u = res.2) (fun u t => BW D K (va_A wc H.size) (wo u) t) (va_A wc H.size)) 0 0 (va_A wc H.size)) (cw : CallB R s args own index y bytes maxL ret ws rm 0 0 n ∧ (Cond.static y).before args s = true) (hK : va_K D vwCl (tyL K) s) (hP : va_P D vwCl ws0 H) (hD : va_D A ws0) (hS : va_S A s.heap H locs) (hA : ∀ q : Nat, s.heap.size ≤ q → A q) (hZ : SS adK adV tF A s) (is : List Nat) (h0 : cs.flatten = ws0) (hC : is.map (fun i => cs[i]?) = ck.map some) (hnd : va_nd is = true) (hc : ck.flatten = wc) (hw : new.flatten = wo res.2) (hlen : new.length = ck.length) (hN1 : sttG cs (is.zip new) = cn) (hN : cn.flatten = wn) 
    (hn : As.length = n) (hsize : ls.size = nL) (hst : st0 = As.reverse ++ rest) (hW : (rest.map fun v => v.category).sum ≤ 8) (hdg : decode cc pc = .ok (.invokestatic index, 3)) (hcs : cells + 0 ≤ R.cells ∧ slots + 0 ≤ R.slots)
    (kk : ∀ (H1 : Heap) (locs1 : List Loc), va_P D vwCl wn H1 → va_D A wn → va_S A s.heap H1 locs1 → W p l e R s m args below meth c H1 locs1 cells slots Q (F0 m (pc + 3) ls (.long res.1 :: rest))) : W p l e R s m args below meth c H locs cells slots Q (F0 m pc ls st0) := by
  subst h0; subst hc
  have hDL := DL_of hD
  have hDc := DL_to (DL_sel hDL hC hnd)
  have hPc := va_PL hP rfl is hC rfl
  have hFc : ∀ q, va_A ck.flatten H.size q → A q := va_freeA hDc hS hA
  refine va_calll (va_runS (As := As) (rest := rest) S hM cw ⟨bl_Wz, fun U hU hW => ⟨rfl, ⟨by rw [hU], by rw [hU]; exact hPc, va_K.moved hW.alike hK, hDc.weaken (fun _ _ _ _ => trivial)⟩, SS_at hZ hS hFc hU hW⟩⟩ rfl hn hsize hst (lv_room hW) hdg hcs) hS (fun q _ h => hFc q h) hFc (fun r u t H1 locs1 ht hvm hw9 hB hz1 hk1 hS => ?_)
  obtain ⟨h1, h2⟩ := hw9
  subst h1; subst h2
  obtain ⟨hP1, hK1, hD1⟩ := hB
  rw [ht] at hP1
  rw [← hw] at hP1 hD1
  obtain ⟨g1, g2⟩ := rk_join hP hDL hC hlen hk1 hFc hP1 hD1
  rw [hN1, hN] at g1 g2
  exact kk H1 locs1 g1 g2 hS

theorem rk_Svz {S9 : Type} {res : S9} {wo : S9 → va_W} {wn : va_W} (cs ck new cn : List va_W) (S : CallFix p m c cc nL s args Ts own) (hM : Met l y ws rm (va_Pc As (PWz D K adK adV tF wc H.size)) (va_Qv (fun u => u = res) (fun u t => BW D K (va_A wc H.size) (wo u) t) (va_A wc H.size)) 0 0 (va_A wc H.size)) (cw : CallB R s args own index y bytes maxL ret ws rm 0 0 n ∧ (Cond.static y).before args s = true) (hK : va_K D vwCl (tyL K) s) (hP : va_P D vwCl ws0 H) (hD : va_D A ws0) (hS : va_S A s.heap H locs) (hA : ∀ q : Nat, s.heap.size ≤ q → A q) (hZ : SS adK adV tF A s) (is : List Nat) (h0 : cs.flatten = ws0) (hC : is.map (fun i => cs[i]?) = ck.map some) (hnd : va_nd is = true) (hc : ck.flatten = wc) (hw : new.flatten = wo res) (hlen : new.length = ck.length) (hN1 : sttG cs (is.zip new) = cn) (hN : cn.flatten = wn) 
    (hn : As.length = n) (hsize : ls.size = nL) (hst : st0 = As.reverse ++ rest) (hW : (rest.map fun v => v.category).sum ≤ 8) (hdg : decode cc pc = .ok (.invokestatic index, 3)) (hcs : cells + 0 ≤ R.cells ∧ slots + 0 ≤ R.slots)
    (kk : ∀ (H1 : Heap) (locs1 : List Loc), va_P D vwCl wn H1 → va_D A wn → va_S A s.heap H1 locs1 → W p l e R s m args below meth c H1 locs1 cells slots Q (F0 m (pc + 3) ls (rest))) : W p l e R s m args below meth c H locs cells slots Q (F0 m pc ls st0) := by
  subst h0; subst hc
  have hDL := DL_of hD
  have hDc := DL_to (DL_sel hDL hC hnd)
  have hPc := va_PL hP rfl is hC rfl
  have hFc : ∀ q, va_A ck.flatten H.size q → A q := va_freeA hDc hS hA
  refine va_callv (va_runS (As := As) (rest := rest) S hM cw ⟨bl_Wz, fun U hU hW => ⟨rfl, ⟨by rw [hU], by rw [hU]; exact hPc, va_K.moved hW.alike hK, hDc.weaken (fun _ _ _ _ => trivial)⟩, SS_at hZ hS hFc hU hW⟩⟩ rfl hn hsize hst (lv_room hW) hdg hcs) hS (fun q _ h => hFc q h) hFc (fun u t H1 locs1 ht hvm hw9 hB hz1 hk1 hS => ?_)
  subst hw9
  obtain ⟨hP1, hK1, hD1⟩ := hB
  rw [ht] at hP1
  rw [← hw] at hP1 hD1
  obtain ⟨g1, g2⟩ := rk_join hP hDL hC hlen hk1 hFc hP1 hD1
  rw [hN1, hN] at g1 g2
  exact kk H1 locs1 g1 g2 hS

end XC
