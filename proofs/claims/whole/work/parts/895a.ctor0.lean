/-! constructors: new arrays by the classes K, rows of rows, a call of a constructor -/
def z0 : MS := (fun _ => 0, fun _ => 0, fun _ _ => 0, fun _ _ => 0)
abbrev AOs (U : State) : Prop := va_AOA .int U ∧ va_AOA .long U
theorem AOs_mv {u U : State} (h : u.vm.Alike U.vm) (g : AOs u) : AOs U := ⟨over_moved h g.1, over_moved h g.2⟩
def nestL : List (String × Nat × MethodName × String) := [(RX10, 15, yX9_init, RX10), (RX10, 25, yX7_init, RX10), (RX7, 17, yX9_init, RX10), (RX10, 32, yX6_init, RX10), (RX10, 39, yX1_init, RX10), (RX1, 11, yX0_init, RX10), (RX10, 46, yX5_init, RX10), (RX10, 53, yX8_init, RX10), (RX10, 60, yX3_init, RX10), (RX3, 25, yX0_init, RX10), (RX10, 67, yX2_init, RX10)]
abbrev NWs (U : State) : Prop := ∀ q ∈ nestL, va_Nw (.methodLinkNest q.1 q.2.1 q.2.2.1 q.2.2.2) U
abbrev OOs (U : State) : Prop := AOs U ∧ NWs U
theorem OOs_w {s U : State} (hW : s.WarmedH U.vm) (g : OOs s) : OOs U := ⟨AOs_mv hW.alike g.1, fun q hq => va_Nw.warmM hW (g.2 q hq)⟩
theorem OOs_c {U : State} {g : JFrame} {mk : MethodId} {a : Array Value} (h : OOs U) : OOs (U.calling g mk a) := ⟨AOs_mv (u := U) (U := U.calling g mk a) (Vm.Alike.refl U.vm) h.1, fun q hq => va_Nw.same rfl rfl (h.2 q hq)⟩
abbrev PWo (D : va_G) (K : Nat → ClassId) (ws : va_W) (sz : Nat) : State → Prop := fun U => PW D K ws sz U ∧ OOs U
theorem bl_Wo {D : va_G} {K : Nat → ClassId} {ws : va_W} {sz : Nat} {av : List Value} : FrameBlind (va_Pc av (PWo D K ws sz)) := fun a U g mk q => ⟨q.1, (bl_W (av := av) a U g mk ⟨q.1, q.2.1⟩).2, OOs_c q.2.2⟩
theorem K_s0 {D : va_G} {cl : List vw_C} {K : Nat → ClassId} {U : State} {cA : ClassId} (h : va_K D cl (tyL K ++ [(cA, .int)]) U) : cA = K 0 := by
  have h1 : U.vm.findClass ("[" ++ (FieldType.int).toString) = some cA := (h.2 5 _ rfl).2
  have h2 : U.vm.findClass ("[" ++ (FieldType.int).toString) = some (K 0) := (h.2 0 _ rfl).2
  exact Option.some.inj (h1.symm.trans h2)
theorem K_s1 {D : va_G} {cl : List vw_C} {K : Nat → ClassId} {U : State} {cA : ClassId} (h : va_K D cl (tyL K ++ [(cA, .long)]) U) : cA = K 1 := by
  have h1 : U.vm.findClass ("[" ++ (FieldType.long).toString) = some cA := (h.2 5 _ rfl).2
  have h2 : U.vm.findClass ("[" ++ (FieldType.long).toString) = some (K 1) := (h.2 1 _ rfl).2
  exact Option.some.inj (h1.symm.trans h2)
theorem K_s2 {D : va_G} {cl : List vw_C} {K : Nat → ClassId} {U : State} {cA : ClassId} (h : va_K D cl (tyL K ++ [(cA, .byte)]) U) : cA = K 2 := by
  have h1 : U.vm.findClass ("[" ++ (FieldType.byte).toString) = some cA := (h.2 5 _ rfl).2
  have h2 : U.vm.findClass ("[" ++ (FieldType.byte).toString) = some (K 2) := (h.2 2 _ rfl).2
  exact Option.some.inj (h1.symm.trans h2)
theorem K_s3 {D : va_G} {cl : List vw_C} {K : Nat → ClassId} {U : State} {cA : ClassId} (h : va_K D cl (tyL K ++ [(cA, .array .int)]) U) : cA = K 3 := by
  have h1 : U.vm.findClass ("[" ++ (FieldType.array .int).toString) = some cA := (h.2 5 _ rfl).2
  have h2 : U.vm.findClass ("[" ++ (FieldType.array .int).toString) = some (K 3) := (h.2 3 _ rfl).2
  exact Option.some.inj (h1.symm.trans h2)
theorem K_s4 {D : va_G} {cl : List vw_C} {K : Nat → ClassId} {U : State} {cA : ClassId} (h : va_K D cl (tyL K ++ [(cA, .array .long)]) U) : cA = K 4 := by
  have h1 : U.vm.findClass ("[" ++ (FieldType.array .long).toString) = some cA := (h.2 5 _ rfl).2
  have h2 : U.vm.findClass ("[" ++ (FieldType.array .long).toString) = some (K 4) := (h.2 4 _ rfl).2
  exact Option.some.inj (h1.symm.trans h2)
section XN
variable {p : Program} {l : Launch} {e : Env} {R : Room} {s : State} {m : MethodId} {args : Array Value} {below : List Frame} {meth : Method} {c : Code} {H : Heap} {locs : List Loc} {cells slots : Nat} {Q : State → Prop}
variable {y : MethodName} {bytes cc : ByteArray} {maxL nL index pc : Nat} {ws : List Cond} {rm : Room} {Ts : List Cond} {own C : String} {b : Addr} {rest st0 : List Value} {ls : Array Slot} {D : va_G} {K : Nat → ClassId} {ws0 : va_W} {A : Nat → Prop} {H0 : Heap}
theorem nw_i (hexec : p.tables.exec = Jvm.exec) (hb : c.code = cc) (harr : (Cond.arrayClass .int).before args s = true) (hK : va_K D vwCl (tyL K) s) (hP : va_P D vwCl ws0 H) (hD : va_D A ws0) (hS : va_S A H0 H locs) (hA : ∀ q : Nat, H0.size ≤ q → A q) {n : Int32} {N' : Nat} (hn : ¬ n < 0) (hN : n.toNatClampNeg = N') (hbytes : N' * 4 ≤ 536870912) (hcells : cells + 1 ≤ R.cells) (hslots : slots + N' ≤ R.slots) (hdg : decode cc pc = .ok (.newarray .int, 2))
    (kk : ∀ (q : Nat) (H1 : Heap), va_P D vwCl (ws0 ++ wAI K q N' (fun _ => 0)) H1 → va_D A (ws0 ++ wAI K q N' (fun _ => 0)) → va_S A H0 H1 locs → W p l e R s m args below meth c H1 locs (cells + 1) (slots + N') Q (F0 m (pc + 2) ls (.ref q :: rest))) : W p l e R s m args below meth c H locs cells slots Q (F0 m pc ls (.int n :: rest)) := by
  refine va_newa (atype := .int) (ty := .int) hexec hb harr rfl hK hP hD hS hA (a0 := (N', .inl fun _ => 0)) (fun cA => rfl) hn hN hbytes hcells hslots hdg (fun q cA H1 hK1 hP1 hD1 hS1 => ?_)
  have e := K_s0 hK1
  subst e
  exact kk q H1 hP1 hD1 hS1
theorem nw_l (hexec : p.tables.exec = Jvm.exec) (hb : c.code = cc) (harr : (Cond.arrayClass .long).before args s = true) (hK : va_K D vwCl (tyL K) s) (hP : va_P D vwCl ws0 H) (hD : va_D A ws0) (hS : va_S A H0 H locs) (hA : ∀ q : Nat, H0.size ≤ q → A q) {n : Int32} {N' : Nat} (hn : ¬ n < 0) (hN : n.toNatClampNeg = N') (hbytes : N' * 8 ≤ 536870912) (hcells : cells + 1 ≤ R.cells) (hslots : slots + N' ≤ R.slots) (hdg : decode cc pc = .ok (.newarray .long, 2))
    (kk : ∀ (q : Nat) (H1 : Heap), va_P D vwCl (ws0 ++ wAJ K q N' (fun _ => 0)) H1 → va_D A (ws0 ++ wAJ K q N' (fun _ => 0)) → va_S A H0 H1 locs → W p l e R s m args below meth c H1 locs (cells + 1) (slots + N') Q (F0 m (pc + 2) ls (.ref q :: rest))) : W p l e R s m args below meth c H locs cells slots Q (F0 m pc ls (.int n :: rest)) := by
  refine va_newa (atype := .long) (ty := .long) hexec hb harr rfl hK hP hD hS hA (a0 := (N', .inr (.inl fun _ => 0))) (fun cA => rfl) hn hN hbytes hcells hslots hdg (fun q cA H1 hK1 hP1 hD1 hS1 => ?_)
  have e := K_s1 hK1
  subst e
  exact kk q H1 hP1 hD1 hS1
theorem nw_b (hexec : p.tables.exec = Jvm.exec) (hb : c.code = cc) (harr : (Cond.arrayClass .byte).before args s = true) (hK : va_K D vwCl (tyL K) s) (hP : va_P D vwCl ws0 H) (hD : va_D A ws0) (hS : va_S A H0 H locs) (hA : ∀ q : Nat, H0.size ≤ q → A q) {n : Int32} {N' : Nat} (hn : ¬ n < 0) (hN : n.toNatClampNeg = N') (hbytes : N' * 1 ≤ 536870912) (hcells : cells + 1 ≤ R.cells) (hslots : slots + N' ≤ R.slots) (hdg : decode cc pc = .ok (.newarray .byte, 2))
    (kk : ∀ (q : Nat) (H1 : Heap), va_P D vwCl (ws0 ++ wAB K q N' (fun _ => 0)) H1 → va_D A (ws0 ++ wAB K q N' (fun _ => 0)) → va_S A H0 H1 locs → W p l e R s m args below meth c H1 locs (cells + 1) (slots + N') Q (F0 m (pc + 2) ls (.ref q :: rest))) : W p l e R s m args below meth c H locs cells slots Q (F0 m pc ls (.int n :: rest)) := by
  refine va_newa (atype := .byte) (ty := .byte) hexec hb harr rfl hK hP hD hS hA (a0 := (N', .inl fun _ => 0)) (fun cA => rfl) hn hN hbytes hcells hslots hdg (fun q cA H1 hK1 hP1 hD1 hS1 => ?_)
  have e := K_s2 hK1
  subst e
  exact kk q H1 hP1 hD1 hS1
theorem pl_0 (r : Nat → Nat) (N : Nat) (e : va_E) : va_pl ([] ++ (List.range N).map r) (vr_up (fun _ => e) ((List.range N).map r) e) = (List.range N).map (fun i => (r i, e)) := by
  have h : vr_up (fun _ => e) ((List.range N).map r) e = fun _ => e := by
    funext a
    unfold vr_up
    split <;> rfl
  rw [h]
  unfold va_pl
  rw [List.nil_append, List.map_map]
  rfl
abbrev wOu (cA : ClassId) (q N : Nat) (r : Nat → Nat) : va_W := [(q, .inl (cA, N, .inr (.inr (.inr (.inr (fun i => if i < N then some (r i) else none))))))]
abbrev wRw (N : Nat) (r : Nat → Nat) (e : va_E) : va_W := (List.range N).map (fun i => (r i, e))
theorem nm_i (hexec : p.tables.exec = Jvm.exec) (hb : c.code = cc) (hown : s.vm.findClass own = some m.cls) (hclink : (Cond.classLink own index ("[" ++ (FieldType.array .int).toString)).before args s = true) (hover : va_AOA .int s) (harr : (Cond.arrayClass .int).before args s = true) (hK : va_K D vwCl (tyL K) s) (hP : va_P D vwCl ws0 H) (hD : va_D A ws0) (hS : va_S A H0 H locs) (hA : ∀ q : Nat, H0.size ≤ q → A q) {n k : Int32} {N' M' : Nat} (hn : ¬ n < 0) (hk : ¬ k < 0) (hN : n.toNatClampNeg = N') (hM : k.toNatClampNeg = M') (hb1 : N' * 4 ≤ 536870912) (hb2 : M' * 4 ≤ 536870912) (hb3 : M' ≤ 536870912) (hcells : cells + (1 + N') ≤ R.cells) (hslots : slots + (N' + N' * M') ≤ R.slots) (hdg : decode cc pc = .ok (.multianewarray index 2, 4))
    (kk : ∀ (q : Nat) (r : Nat → Nat) (H1 : Heap), va_P D vwCl (ws0 ++ wOu (K 3) q N' r ++ wRw N' r (.inl (K 0, M', .inl fun _ => 0))) H1 → va_D A (ws0 ++ wOu (K 3) q N' r ++ wRw N' r (.inl (K 0, M', .inl fun _ => 0))) → va_S A H0 H1 locs → W p l e R s m args below meth c H1 locs (cells + 1 + N') (slots + N' + N' * M') Q (F0 m (pc + 4) ls (.ref q :: rest))) : W p l e R s m args below meth c H locs cells slots Q (F0 m pc ls (.int k :: .int n :: rest)) := by
  have h0 : ws0 ++ va_pl [] (fun _ => (.inl (K 0, M', .inl fun _ => 0) : va_E)) = ws0 := List.append_nil ws0
  refine va_mna (X := ws0) (L := []) (f := fun _ => .inl (K 0, M', .inl fun _ => 0)) (ty := .int) (cy := K 0) hexec hb hown hclink hover harr (hK.2 0 _ rfl).2 hK (by rw [h0]; exact hP) (by rw [h0]; exact hD) hS hA (z := (M', .inl fun _ => 0)) hn hk hN hM hb1 hb2 hb3 rfl rfl hcells hslots (fun c => ?_) hdg (fun q r cA H1 _ _ hK1 hP1 hD1 hS1 => ?_)
  · show ({ cls := c, slots := Array.replicate M' (.int 0), vm := .none } : Cell) = _
    rw [arrV_new]
    rfl
  · have e := K_s3 hK1
    subst e
    rw [pl_0] at hP1 hD1
    exact kk q r H1 hP1 hD1 hS1
theorem nm_l (hexec : p.tables.exec = Jvm.exec) (hb : c.code = cc) (hown : s.vm.findClass own = some m.cls) (hclink : (Cond.classLink own index ("[" ++ (FieldType.array .long).toString)).before args s = true) (hover : va_AOA .long s) (harr : (Cond.arrayClass .long).before args s = true) (hK : va_K D vwCl (tyL K) s) (hP : va_P D vwCl ws0 H) (hD : va_D A ws0) (hS : va_S A H0 H locs) (hA : ∀ q : Nat, H0.size ≤ q → A q) {n k : Int32} {N' M' : Nat} (hn : ¬ n < 0) (hk : ¬ k < 0) (hN : n.toNatClampNeg = N') (hM : k.toNatClampNeg = M') (hb1 : N' * 4 ≤ 536870912) (hb2 : M' * 8 ≤ 536870912) (hb3 : M' ≤ 536870912) (hcells : cells + (1 + N') ≤ R.cells) (hslots : slots + (N' + N' * M') ≤ R.slots) (hdg : decode cc pc = .ok (.multianewarray index 2, 4))
    (kk : ∀ (q : Nat) (r : Nat → Nat) (H1 : Heap), va_P D vwCl (ws0 ++ wOu (K 4) q N' r ++ wRw N' r (.inl (K 1, M', .inr (.inl fun _ => 0)))) H1 → va_D A (ws0 ++ wOu (K 4) q N' r ++ wRw N' r (.inl (K 1, M', .inr (.inl fun _ => 0)))) → va_S A H0 H1 locs → W p l e R s m args below meth c H1 locs (cells + 1 + N') (slots + N' + N' * M') Q (F0 m (pc + 4) ls (.ref q :: rest))) : W p l e R s m args below meth c H locs cells slots Q (F0 m pc ls (.int k :: .int n :: rest)) := by
  have h0 : ws0 ++ va_pl [] (fun _ => (.inl (K 1, M', .inr (.inl fun _ => 0)) : va_E)) = ws0 := List.append_nil ws0
  refine va_mna (X := ws0) (L := []) (f := fun _ => .inl (K 1, M', .inr (.inl fun _ => 0))) (ty := .long) (cy := K 1) hexec hb hown hclink hover harr (hK.2 1 _ rfl).2 hK (by rw [h0]; exact hP) (by rw [h0]; exact hD) hS hA (z := (M', .inr (.inl fun _ => 0))) hn hk hN hM hb1 hb2 hb3 rfl rfl hcells hslots (fun c => ?_) hdg (fun q r cA H1 _ _ hK1 hP1 hD1 hS1 => ?_)
  · show ({ cls := c, slots := Array.replicate M' (.long 0), vm := .none } : Cell) = _
    rw [arrV_new]
    rfl
  · have e := K_s4 hK1
    subst e
    rw [pl_0] at hP1 hD1
    exact kk q r H1 hP1 hD1 hS1
theorem rk_I {S9 : Type} {post : S9 → Prop} {wo : S9 → va_W} {mc ms : Nat} {pre last : va_W} (S : CallFix p m c cc nL s args Ts own) (hM : Met l y ws rm (va_Pc [.ref b] (PWo D K last H.size)) (va_Qv post (fun u t => BW D K (va_A last H.size) (wo u) t) (va_A last H.size)) mc ms (va_A last H.size)) (cw : CallB R s args own index y bytes maxL none ws rm mc ms 0 ∧ y.name = "<init>" ∧ (Cond.instanceMethod y).before args s = true) (hK : va_K D vwCl (tyL K) s) (hO : OOs s) (hP : va_P D vwCl (pre ++ last) H) (hD : va_D A (pre ++ last)) (hS : va_S A H0 H locs) (hA : ∀ q : Nat, H0.size ≤ q → A q)
    (hsize : ls.size = nL) (hst : st0 = .ref b :: rest) (hW : (rest.map fun v => v.category).sum ≤ 8) (hdg : decode cc pc = .ok (.invokespecial index, 3)) (hcs : cells + mc ≤ R.cells ∧ slots + ms ≤ R.slots)
    (kk : ∀ (u : S9) (H1 : Heap) (locs1 : List Loc), post u → va_P D vwCl (pre ++ wo u) H1 → va_D A (pre ++ wo u) → va_S A H0 H1 locs1 → W p l e R s m args below meth c H1 locs1 (cells + mc) (slots + ms) Q (F0 m (pc + 3) ls rest)) : W p l e R s m args below meth c H locs cells slots Q (F0 m pc ls st0) := by
  rw [← fl2] at hP hD
  have hDL := DL_of hD
  have hC : [1].map (fun i => [pre, last][i]?) = [last].map some := rfl
  have hDc := DL_to (DL_sel hDL hC (by decide))
  rw [fl1] at hDc
  have hPc : va_P D vwCl last H := va_PL hP rfl [1] hC (fl1 _)
  have hFc : ∀ q, va_A last H.size q → A q := va_freeA hDc hS hA
  refine va_callv (va_runI (As := []) (rest := rest) S hM cw ⟨bl_Wo, fun U hU hW => ⟨rfl, ⟨by rw [hU], by rw [hU]; exact hPc, va_K.moved hW.alike hK, hDc.weaken (fun _ _ _ _ => trivial)⟩, OOs_w hW hO⟩⟩ rfl rfl hsize hst (lv_room hW) hdg hcs) hS (fun q _ h => hFc q h) hFc (fun u t H1 locs1 ht hvm hw9 hB hz1 hk1 hS => ?_)
  obtain ⟨hP1, hK1, hD1⟩ := hB
  rw [ht] at hP1
  have hk2 : ∀ q : Nat, q < H.size → ¬ va_A [last].flatten H.size q → H1[q]? = H[q]? := by rw [fl1]; exact hk1
  have hF2 : ∀ q, va_A [last].flatten H.size q → A q := by rw [fl1]; exact hFc
  obtain ⟨g1, g2⟩ := rk_join (new := [wo u]) hP hDL hC rfl hk2 hF2 (by rw [fl1]; exact hP1) (by rw [fl1, fl1]; exact hD1)
  have e2 : (sttG [pre, last] ([1].zip [wo u])).flatten = pre ++ wo u := fl2 _ _
  rw [e2] at g1 g2
  exact kk u H1 locs1 hw9 g1 g2 hS
theorem rk_N {host : String} {S9 : Type} {post : S9 → Prop} {wo : S9 → va_W} {mc ms : Nat} {pre last : va_W} (S : CallFix p m c cc nL s args Ts own) (hM : Met l y ws rm (va_Pc [.ref b] (PWo D K last H.size)) (va_Qv post (fun u t => BW D K (va_A last H.size) (wo u) t) (va_A last H.size)) mc ms (va_A last H.size)) (cw : va_CN R s args own index y host bytes maxL none ws rm mc ms 0 ∧ y.name = "<init>" ∧ (Cond.instanceMethod y).before args s = true) (hK : va_K D vwCl (tyL K) s) (hO : OOs s) (hP : va_P D vwCl (pre ++ last) H) (hD : va_D A (pre ++ last)) (hS : va_S A H0 H locs) (hA : ∀ q : Nat, H0.size ≤ q → A q)
    (hsize : ls.size = nL) (hst : st0 = .ref b :: rest) (hW : (rest.map fun v => v.category).sum ≤ 8) (hdg : decode cc pc = .ok (.invokespecial index, 3)) (hcs : cells + mc ≤ R.cells ∧ slots + ms ≤ R.slots)
    (kk : ∀ (u : S9) (H1 : Heap) (locs1 : List Loc), post u → va_P D vwCl (pre ++ wo u) H1 → va_D A (pre ++ wo u) → va_S A H0 H1 locs1 → W p l e R s m args below meth c H1 locs1 (cells + mc) (slots + ms) Q (F0 m (pc + 3) ls rest)) : W p l e R s m args below meth c H locs cells slots Q (F0 m pc ls st0) := by
  rw [← fl2] at hP hD
  have hDL := DL_of hD
  have hC : [1].map (fun i => [pre, last][i]?) = [last].map some := rfl
  have hDc := DL_to (DL_sel hDL hC (by decide))
  rw [fl1] at hDc
  have hPc : va_P D vwCl last H := va_PL hP rfl [1] hC (fl1 _)
  have hFc : ∀ q, va_A last H.size q → A q := va_freeA hDc hS hA
  refine va_callv (va_runIN (As := []) (rest := rest) S hM cw ⟨bl_Wo, fun U hU hW => ⟨rfl, ⟨by rw [hU], by rw [hU]; exact hPc, va_K.moved hW.alike hK, hDc.weaken (fun _ _ _ _ => trivial)⟩, OOs_w hW hO⟩⟩ rfl rfl hsize hst (lv_room hW) hdg hcs) hS (fun q _ h => hFc q h) hFc (fun u t H1 locs1 ht hvm hw9 hB hz1 hk1 hS => ?_)
  obtain ⟨hP1, hK1, hD1⟩ := hB
  rw [ht] at hP1
  have hk2 : ∀ q : Nat, q < H.size → ¬ va_A [last].flatten H.size q → H1[q]? = H[q]? := by rw [fl1]; exact hk1
  have hF2 : ∀ q, va_A [last].flatten H.size q → A q := by rw [fl1]; exact hFc
  obtain ⟨g1, g2⟩ := rk_join (new := [wo u]) hP hDL hC rfl hk2 hF2 (by rw [fl1]; exact hP1) (by rw [fl1, fl1]; exact hD1)
  have e2 : (sttG [pre, last] ([1].zip [wo u])).flatten = pre ++ wo u := fl2 _ _
  rw [e2] at g1 g2
  exact kk u H1 locs1 hw9 g1 g2 hS
end XN
theorem perm_W {D : va_G} {cl : List vw_C} {A : Nat → Prop} {H : Heap} {cs cc : List va_W} {ws0 wc : va_W} (hP : va_P D cl ws0 H) (hD : va_D A ws0) (h0 : cs.flatten = ws0) (is : List Nat) (hC : is.map (fun i => cs[i]?) = cc.map some) (hnd : va_nd is = true) (hc : cc.flatten = wc) : va_P D cl wc H ∧ va_D A wc := by
  refine ⟨va_PL hP h0 is hC hc, ?_⟩
  subst h0; subst hc
  exact DL_to (DL_sel (DL_of hD) hC hnd)
theorem gI {T0 : Cond} {n : Nat} {y : MethodName} {b : ByteArray} {r : Option FieldType} (h5 : Cond.code y b n r ∈ wsL_law) : GoodIn (T0 :: wsL_law) (.code y b n r :: wsL_law) := by
  intro w hw
  have hm : w ∈ wsL_law := by
    rcases List.mem_cons.mp hw with rfl | h
    · exact h5
    · exact h
  exact ⟨List.mem_cons_of_mem _ hm, good_of_word (gW w hm)⟩
def dfDw : List Value := [.int 0]
theorem dfDw_ok : ∀ j, j < 1 → defaultValue (tyX0 j) = vp_V dfDw j
  | 0, _ => rfl
  | j + 1, h => absurd h (by omega)
def dfFr : List Value := [.long 0, .long 0]
theorem dfFr_ok : ∀ j, j < 2 → defaultValue (tyX2 j) = vp_V dfFr j
  | 0, _ => rfl
  | 1, _ => rfl
  | j + 2, h => absurd h (by omega)
def dfRo : List Value := [.int 0, .int 0, .int 0, .int 0, .int 0, .int 0, .int 0, .int 0, .int 0, .int 0, .null, .null, .null, .null, .null, .null, .null, .null, .null]
theorem dfRo_ok : ∀ j, j < 19 → defaultValue (tyX9 j) = vp_V dfRo j
  | 0, _ => rfl
  | 1, _ => rfl
  | 2, _ => rfl
  | 3, _ => rfl
  | 4, _ => rfl
  | 5, _ => rfl
  | 6, _ => rfl
  | 7, _ => rfl
  | 8, _ => rfl
  | 9, _ => rfl
  | 10, _ => rfl
  | 11, _ => rfl
  | 12, _ => rfl
  | 13, _ => rfl
  | 14, _ => rfl
  | 15, _ => rfl
  | 16, _ => rfl
  | 17, _ => rfl
  | 18, _ => rfl
  | j + 19, h => absurd h (by omega)
def dfRe : List Value := [.int 0, .int 0, .int 0, .long 0, .null, .int 0, .int 0, .null]
theorem dfRe_ok : ∀ j, j < 8 → defaultValue (tyX8 j) = vp_V dfRe j
  | 0, _ => rfl
  | 1, _ => rfl
  | 2, _ => rfl
  | 3, _ => rfl
  | 4, _ => rfl
  | 5, _ => rfl
  | 6, _ => rfl
  | 7, _ => rfl
  | j + 8, h => absurd h (by omega)
def dfDr : List Value := [.int 0, .null, .null, .null, .null, .long 0]
theorem dfDr_ok : ∀ j, j < 6 → defaultValue (tyX1 j) = vp_V dfDr j
  | 0, _ => rfl
  | 1, _ => rfl
  | 2, _ => rfl
  | 3, _ => rfl
  | 4, _ => rfl
  | 5, _ => rfl
  | j + 6, h => absurd h (by omega)
def dfJo : List Value := [.null, .int 0, .int 0, .int 0, .null, .null, .null]
theorem dfJo_ok : ∀ j, j < 7 → defaultValue (tyX3 j) = vp_V dfJo j
  | 0, _ => rfl
  | 1, _ => rfl
  | 2, _ => rfl
  | 3, _ => rfl
  | 4, _ => rfl
  | 5, _ => rfl
  | 6, _ => rfl
  | j + 7, h => absurd h (by omega)
def dfNe : List Value := [.null, .null, .null]
theorem dfNe_ok : ∀ j, j < 3 → defaultValue (tyX5 j) = vp_V dfNe j
  | 0, _ => rfl
  | 1, _ => rfl
  | 2, _ => rfl
  | j + 3, h => absurd h (by omega)
def dfPl : List Value := [.null, .null, .null, .null]
theorem dfPl_ok : ∀ j, j < 4 → defaultValue (tyX6 j) = vp_V dfPl j
  | 0, _ => rfl
  | 1, _ => rfl
  | 2, _ => rfl
  | 3, _ => rfl
  | j + 4, h => absurd h (by omega)
def dfRd : List Value := [.int 0, .int 0, .null, .int 0, .null, .int 0, .int 0, .int 0, .int 0, .null, .null]
theorem dfRd_ok : ∀ j, j < 11 → defaultValue (tyX7 j) = vp_V dfRd j
  | 0, _ => rfl
  | 1, _ => rfl
  | 2, _ => rfl
  | 3, _ => rfl
  | 4, _ => rfl
  | 5, _ => rfl
  | 6, _ => rfl
  | 7, _ => rfl
  | 8, _ => rfl
  | 9, _ => rfl
  | 10, _ => rfl
  | j + 11, h => absurd h (by omega)
def dfMn : List Value := [.null, .int 0, .null, .null, .null, .null, .null, .null, .null, .null, .null, .int 0, .int 0, .int 0]
theorem dfMn_ok : ∀ j, j < 14 → defaultValue (tyX10 j) = vp_V dfMn j
  | 0, _ => rfl
  | 1, _ => rfl
  | 2, _ => rfl
  | 3, _ => rfl
  | 4, _ => rfl
  | 5, _ => rfl
  | 6, _ => rfl
  | 7, _ => rfl
  | 8, _ => rfl
  | 9, _ => rfl
  | 10, _ => rfl
  | 11, _ => rfl
  | 12, _ => rfl
  | 13, _ => rfl
  | j + 14, h => absurd h (by omega)
def dfMo : List Value := [.int 0, .null, .int 0, .int 0, .int 0, .int 0, .int 0, .int 0, .int 0, .int 0, .int 0, .int 0, .null, .int 0, .int 0, .null, .null, .null, .null, .null, .null, .int 0, .int 0, .null, .null, .null, .int 0, .null, .null, .null, .null, .long 0, .long 0, .null, .null, .int 0, .int 0, .int 0, .int 0, .int 0, .int 0]
theorem dfMo_ok : ∀ j, j < 41 → defaultValue (tyX11 j) = vp_V dfMo j
  | 0, _ => rfl
  | 1, _ => rfl
  | 2, _ => rfl
  | 3, _ => rfl
  | 4, _ => rfl
  | 5, _ => rfl
  | 6, _ => rfl
  | 7, _ => rfl
  | 8, _ => rfl
  | 9, _ => rfl
  | 10, _ => rfl
  | 11, _ => rfl
  | 12, _ => rfl
  | 13, _ => rfl
  | 14, _ => rfl
  | 15, _ => rfl
  | 16, _ => rfl
  | 17, _ => rfl
  | 18, _ => rfl
  | 19, _ => rfl
  | 20, _ => rfl
  | 21, _ => rfl
  | 22, _ => rfl
  | 23, _ => rfl
  | 24, _ => rfl
  | 25, _ => rfl
  | 26, _ => rfl
  | 27, _ => rfl
  | 28, _ => rfl
  | 29, _ => rfl
  | 30, _ => rfl
  | 31, _ => rfl
  | 32, _ => rfl
  | 33, _ => rfl
  | 34, _ => rfl
  | 35, _ => rfl
  | 36, _ => rfl
  | 37, _ => rfl
  | 38, _ => rfl
  | 39, _ => rfl
  | 40, _ => rfl
  | j + 41, h => absurd h (by omega)
def wNew (K : Nat → ClassId) (u : Nat → Nat → Nat) : va_W := List.flatten [wMn K (u 0) (u 17 0) ((u 18) 99) ((u 19) 99) ((u 1) 99) ((u 2) 99) ((u 5) 99) ((u 9) 99) ((u 11) 99) ((u 12) 99) ((u 16) 99) z0, wRd K (u 1) (u 1 2) (u 1 4) z0, wPl K (u 2) (u 3) (u 4) z0, wPc K (u 3) z0, wPb K (u 4) z0, wDr K (u 5) ((u 8) 99) (u 6 0) (u 7 0) z0, wAI K (u 6 0) 41 (fun _ => 0), wAI K (u 7 0) 41 (fun _ => 0), wDw K (u 8) z0, wNe K (u 9) (u 10) z0, wNc K (u 10) z0, wRe K (u 11) z0, wJo K (u 12) ((u 15) 99) (u 13) (u 14) z0, wJk K (u 13) z0, wJi K (u 14) z0, wDw K (u 15) z0, wFr K (u 16) (sL z0 1 1), wAB K (u 17 0) 800 (fun _ => 0), wRo K (u 18) z0, wRo K (u 19) z0]