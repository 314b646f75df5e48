def strL : List (String × Nat × String × Nat) := [(RX11, 139, "ca\x72", 0), (RX11, 141, "place", 1), (RX11, 142, "road", 2), (RX11, 144, "pump", 3), (RX11, 146, "way", 4), (RX11, 148, "receipt", 5), (RX11, 150, "o\x72", 13), (RX11, 224, "tank", 6), (RX11, 230, "has", 7), (RX11, 232, "stop", 8), (RX11, 238, "stuck", 9), (RX11, 243, "takes", 10), (RX11, 245, "minutes", 11), (RX11, 247, "price", 12), (RX11, 249, "shut", 14), (RX7, 66, "ca\x72", 0), (RX7, 78, "place", 1), (RX7, 80, "road", 2), (RX7, 81, "pump", 3), (RX7, 83, "way", 4), (RX7, 85, "receipt", 5), (RX7, 114, "tank", 6), (RX7, 125, "has", 7), (RX7, 129, "stop", 8), (RX7, 137, "stuck", 9), (RX7, 157, "takes", 10), (RX7, 159, "minutes", 11), (RX7, 168, "price", 12), (RX7, 170, "o\x72", 13), (RX7, 178, "shut", 14)]
def rvF : Nat → Value
  | 0 => .null
  | t + 1 => .ref t
def SS (adK adV : Nat → Nat) (tF : Nat) (A : Nat → Prop) (U : State) : Prop :=
  vk_S 15 lenZ bytZ adK adV A U U.heap ∧ va_Z "java/lang/String" "COMPACT_STRINGS" "Z" (.int 1) A U U.heap ∧ va_Z "jdk/internal/util/Preconditions" "SIOOBE_FORMATTER" "Ljava/util/function/BiFunction;" (rvF tF) A U U.heap ∧ ∀ q ∈ strL, vk_R q.1 q.2.1 q.2.2.1 (adK q.2.2.2) U
theorem SS_at {adK adV : Nat → Nat} {tF : Nat} {A B : Nat → Prop} {s U : State} {H : Heap} {locs : List Loc} (hZ : SS adK adV tF A s) (hS : va_S A s.heap H locs) (hBA : ∀ q, B q → A q) (hU : U.heap = H) (hW : s.WarmedH U.vm) : SS adK adV tF B U := by
  obtain ⟨h1, h2, h3, h4⟩ := hZ
  refine ⟨?_, ?_, ?_, fun q hq => vk_R.warm hW (h4 q hq)⟩
  · rw [hU]; exact ((h1.kept hS.2.1).narrow hBA).moved hW.alike
  · rw [hU]; exact ((h2.kept hS.2.1).narrow hBA).moved hW.alike
  · rw [hU]; exact ((h3.kept hS.2.1).narrow hBA).moved hW.alike
theorem SS_bl {adK adV : Nat → Nat} {tF : Nat} {B : Nat → Prop} {U : State} {g : JFrame} {mk : MethodId} {a : Array Value} (h : SS adK adV tF B U) : SS adK adV tF B (U.calling g mk a) := by
  obtain ⟨h1, h2, h3, h4⟩ := h
  exact ⟨h1.moved (U := U.calling g mk a) (Vm.Alike.refl U.vm), h2.moved (U := U.calling g mk a) (Vm.Alike.refl U.vm), h3.moved (U := U.calling g mk a) (Vm.Alike.refl U.vm), fun q hq => vk_R.same (u := U) rfl (h4 q hq)⟩
theorem nO_e {P : Prop} {q : Nat} (h : nOne q) : P := False.elim h
theorem bl_Z {adK adV : Nat → Nat} {tF : Nat} {av : List Value} : FrameBlind (va_Pc av (SS adK adV tF nOne)) := fun a U g mk q => ⟨q.1, SS_bl q.2⟩
section XZ
variable {p : Program} {l : Launch} {e : Env} {R : Room} {s : State} {m : MethodId} {args : Array Value} {below : List Frame} {meth : Method} {c : Code} {H : Heap} {locs : List Loc} {cells slots : Nat} {Q : State → Prop}
variable {y : MethodName} {bytes cc : ByteArray} {maxL nL n index pc : Nat} {ret : Option FieldType} {ws : List Cond} {rm : Room} {Ts : List Cond} {own C : String} {b : Addr} {As rest st0 : List Value} {ls : Array Slot} {A : Nat → Prop} {adK adV : Nat → Nat} {tF : Nat}
theorem roZ_Vi {res : Int32} (S : CallFix p m c cc nL s args Ts own) (hM : Met l y ws rm (va_Pc (.ref b :: As) (SS adK adV tF nOne)) (va_Qi (fun r (_ : Unit) => r = res) BN nOne) 0 0 nOne) (cw : CallW R s args own C index y bytes maxL ret ws rm 0 0 n) (hZ : SS adK adV tF A s) (hS : va_S A s.heap H locs) (hv : ∃ cell : Cell, H[b]? = some cell ∧ cell.vm.isStatics = false ∧ s.vm.findClass C = some cell.cls)
    (hn : As.length = n) (hsize : ls.size = nL) (hst : st0 = As.reverse ++ .ref b :: rest) (hW : (rest.map fun v => v.category).sum ≤ 8) (hdg : decode cc pc = .ok (.invokevirtual index, 3)) (hcs : cells + 0 ≤ R.cells ∧ slots + 0 ≤ R.slots)
    (kk : ∀ (H1 : Heap) (locs1 : List Loc), (∀ q : Nat, q < H.size → H1[q]? = H[q]?) → va_S A s.heap H1 locs1 → W p l e R s m args below meth c H1 locs1 cells slots Q (F0 m (pc + 3) ls (.int res :: rest))) : W p l e R s m args below meth c H locs cells slots Q (F0 m pc ls st0) := by
  refine va_calli (va_runV (As := As) (rest := rest) S hM cw ⟨bl_Z, hv, fun U hU hW => ⟨rfl, SS_at hZ hS (fun _ h => nO_e h) hU hW⟩⟩ rfl hn hsize hst (lv_room hW) hdg hcs) hS (fun q _ h => h.elim) (fun q h => h.elim) (fun r u t H1 locs1 ht hvm hw hB hz1 hk1 hS => ?_)
  subst hw
  exact kk H1 locs1 (fun q h => hk1 q h (fun z => z)) hS
theorem roZ_Si {res : Int32} (S : CallFix p m c cc nL s args Ts own) (hM : Met l y ws rm (va_Pc As (SS adK adV tF nOne)) (va_Qi (fun r (_ : Unit) => r = res) BN nOne) 0 0 nOne) (cw : CallB R s args own index y bytes maxL ret ws rm 0 0 n ∧ (Cond.static y).before args s = true) (hZ : SS adK adV tF A s) (hS : va_S A s.heap H locs)
    (hn : As.length = n) (hsize : ls.size = nL) (hst : st0 = As.reverse ++ rest) (hW : (rest.map fun v => v.category).sum ≤ 8) (hdg : decode cc pc = .ok (.invokestatic index, 3)) (hcs : cells + 0 ≤ R.cells ∧ slots + 0 ≤ R.slots)
    (kk : ∀ (H1 : Heap) (locs1 : List Loc), (∀ q : Nat, q < H.size → H1[q]? = H[q]?) → va_S A s.heap H1 locs1 → W p l e R s m args below meth c H1 locs1 cells slots Q (F0 m (pc + 3) ls (.int res :: rest))) : W p l e R s m args below meth c H locs cells slots Q (F0 m pc ls st0) := by
  refine va_calli (va_runS (As := As) (rest := rest) S hM cw ⟨bl_Z, fun U hU hW => ⟨rfl, SS_at hZ hS (fun _ h => nO_e h) hU hW⟩⟩ rfl hn hsize hst (lv_room hW) hdg hcs) hS (fun q _ h => h.elim) (fun q h => h.elim) (fun r u t H1 locs1 ht hvm hw hB hz1 hk1 hS => ?_)
  subst hw
  exact kk H1 locs1 (fun q h => hk1 q h (fun z => z)) hS
theorem roZ_Sv (S : CallFix p m c cc nL s args Ts own) (hM : Met l y ws rm (va_Pc As (SS adK adV tF nOne)) (va_Qv (fun (_ : Unit) => True) BN nOne) 0 0 nOne) (cw : CallB R s args own index y bytes maxL ret ws rm 0 0 n ∧ (Cond.static y).before args s = true) (hZ : SS adK adV tF A s) (hS : va_S A s.heap H locs)
    (hn : As.length = n) (hsize : ls.size = nL) (hst : st0 = As.reverse ++ rest) (hW : (rest.map fun v => v.category).sum ≤ 8) (hdg : decode cc pc = .ok (.invokestatic index, 3)) (hcs : cells + 0 ≤ R.cells ∧ slots + 0 ≤ R.slots)
    (kk : ∀ (H1 : Heap) (locs1 : List Loc), (∀ q : Nat, q < H.size → H1[q]? = H[q]?) → va_S A s.heap H1 locs1 → W p l e R s m args below meth c H1 locs1 cells slots Q (F0 m (pc + 3) ls rest)) : W p l e R s m args below meth c H locs cells slots Q (F0 m pc ls st0) := by
  refine va_callv (va_runS (As := As) (rest := rest) S hM cw ⟨bl_Z, fun U hU hW => ⟨rfl, SS_at hZ hS (fun _ h => nO_e h) hU hW⟩⟩ rfl hn hsize hst (lv_room hW) hdg hcs) hS (fun q _ h => h.elim) (fun q h => h.elim) (fun u t H1 locs1 ht hvm hw hB hz1 hk1 hS => ?_)
  exact kk H1 locs1 (fun q h => hk1 q h (fun z => z)) hS
end XZ
def wz_J0_coder_7d493 : List Cond := .code yJ0_coder_7d493 cJ0_coder_7d493 1 (some .byte) :: wsL_law
abbrev r_J0_coder_7d493 : Room := { frames := 0, cells := 0, slots := 0, locals := 0 }
set_option maxHeartbeats 4000000 in
set_option maxRecDepth 100000 in
theorem c_J0_coder_7d493 (l : Launch) (adK adV : Nat → Nat) (tF : Nat) (i : Nat) (hi : i < 15) : Met l yJ0_coder_7d493 wz_J0_coder_7d493 r_J0_coder_7d493 (va_Pc [.ref (adK i)] (SS adK adV tF nOne)) (va_Qi (fun r (_ : Unit) => r = 0) BN nOne) 0 0 nOne := by
  refine Met.ofW (cc := cJ0_coder_7d493) (maxL := 1) (ret := (some .byte)) (by decide) rfl ?_
  intro p e s m args below meth c s₁ B hml hv
  obtain ⟨hargs, hZ⟩ := hv
  have hx := B.exec
  have hb := B.bytes
  have hr := B.returns
  have hts := atoms_spec (ws := wz_J0_coder_7d493) B.pre
  have htl : ∀ w ∈ wsL_law, w.before args s = true := fun w h => hts w (List.mem_cons_of_mem _ h)
  have hown : s.vm.findClass RJ0 = some m.cls := findClass_of_methodNamed B.named
  have hlocks := B.notSynchronized
  have hS : va_S nOne s.heap s.heap [] := va_S.rf
  have hen : entryFrame m args 1 = entryFrame m (([.ref (adK i)] : List Value).toArray) 1 := by rw [hargs]
  have hl := lv_entry ([.ref (adK i)]) (n := 1) (Nat.le_of_ble_eq_true rfl)
  rw [hen, lg_entry_eq]
  generalize (lg_sl ([.ref (adK i)]) ++ List.replicate (1 - (lg_sl ([.ref (adK i)])).length) Slot.unset).toArray = ls at hl ⊢
  refine va_gets hx hb hZ.2.1 hS hown (htl _ (mB10 _ (List.mem_of_getElem? (i := 14) rfl))) (fun _ h9 => h9) dJ0_coder_7d493_0 ?_
  refine lv_if_eq (tgt := 13) hx hb dJ0_coder_7d493_3 (by decide) (fun c1 => absurd c1 (by decide)) (fun c1 => ?_)
  refine lv_aload_n hx hb dJ0_coder_7d493_6 rfl (lv_at hl 0 rfl) ?_
  refine vk_getf hx hb (hZ.1.1 i hi).2.1 hS hown (htl _ (mB10 _ (List.mem_of_getElem? (i := 15) rfl))) (fun _ h9 => h9) dJ0_coder_7d493_7 ?_
  refine lv_goto (tgt := 14) hx hb dJ0_coder_7d493_10 (by decide) ?_
  exact W.zret (v := 0) hx hb hr rfl (fun t ht hW => ⟨⟨0, (), rfl, rfl, trivial⟩, hS.F ht⟩) hS.2.2 dJ0_coder_7d493_14
def wz_J0_isLatin1_aae02 : List Cond := .code yJ0_isLatin1_aae02 cJ0_isLatin1_aae02 1 (some .boolean) :: wsL_law
abbrev r_J0_isLatin1_aae02 : Room := { frames := 0, cells := 0, slots := 0, locals := 0 }
set_option maxHeartbeats 4000000 in
set_option maxRecDepth 100000 in
theorem c_J0_isLatin1_aae02 (l : Launch) (adK adV : Nat → Nat) (tF : Nat) (i : Nat) (hi : i < 15) : Met l yJ0_isLatin1_aae02 wz_J0_isLatin1_aae02 r_J0_isLatin1_aae02 (va_Pc [.ref (adK i)] (SS adK adV tF nOne)) (va_Qi (fun r (_ : Unit) => r = 1) BN nOne) 0 0 nOne := by
  refine Met.ofW (cc := cJ0_isLatin1_aae02) (maxL := 1) (ret := (some .boolean)) (by decide) rfl ?_
  intro p e s m args below meth c s₁ B hml hv
  obtain ⟨hargs, hZ⟩ := hv
  have hx := B.exec
  have hb := B.bytes
  have hr := B.returns
  have hts := atoms_spec (ws := wz_J0_isLatin1_aae02) B.pre
  have htl : ∀ w ∈ wsL_law, w.before args s = true := fun w h => hts w (List.mem_cons_of_mem _ h)
  have hown : s.vm.findClass RJ0 = some m.cls := findClass_of_methodNamed B.named
  have hlocks := B.notSynchronized
  have hS : va_S nOne s.heap s.heap [] := va_S.rf
  have hen : entryFrame m args 1 = entryFrame m (([.ref (adK i)] : List Value).toArray) 1 := by rw [hargs]
  have hl := lv_entry ([.ref (adK i)]) (n := 1) (Nat.le_of_ble_eq_true rfl)
  rw [hen, lg_entry_eq]
  generalize (lg_sl ([.ref (adK i)]) ++ List.replicate (1 - (lg_sl ([.ref (adK i)])).length) Slot.unset).toArray = ls at hl ⊢
  refine va_gets hx hb hZ.2.1 hS hown (htl _ (mB10 _ (List.mem_of_getElem? (i := 14) rfl))) (fun _ h9 => h9) dJ0_isLatin1_aae02_0 ?_
  refine lv_if_eq (tgt := 17) hx hb dJ0_isLatin1_aae02_3 (by decide) (fun c1 => absurd c1 (by decide)) (fun c1 => ?_)
  refine lv_aload_n hx hb dJ0_isLatin1_aae02_6 rfl (lv_at hl 0 rfl) ?_
  refine vk_getf hx hb (hZ.1.1 i hi).2.1 hS hown (htl _ (mB10 _ (List.mem_of_getElem? (i := 15) rfl))) (fun _ h9 => h9) dJ0_isLatin1_aae02_7 ?_
  refine lv_if_ne (tgt := 17) hx hb dJ0_isLatin1_aae02_10 (by decide) (fun c1 => absurd rfl c1) (fun c1 => ?_)
  refine lv_iconst (v := 1) hx hb dJ0_isLatin1_aae02_13 (by decide) ?_
  refine lv_goto (tgt := 18) hx hb dJ0_isLatin1_aae02_14 (by decide) ?_
  exact W.zret (v := 1) hx hb hr rfl (fun t ht hW => ⟨⟨1, (), rfl, rfl, trivial⟩, hS.F ht⟩) hS.2.2 dJ0_isLatin1_aae02_18
theorem gcV_J0_coder_7d493 {T0 : Cond} {own : String} {i : Nat} (h : Cond.methodLink own i yJ0_coder_7d493 ∈ wsL_law) : GoodIn (T0 :: wsL_law) (wsV own i RJ0 yJ0_coder_7d493 wz_J0_coder_7d493) := gV h (mB10 _ (List.mem_of_getElem? (i := 11) rfl)) (mB10 _ (List.mem_of_getElem? (i := 12) rfl)) (mB10 _ (List.mem_of_getElem? (i := 7) rfl)) (mB10 _ (List.mem_of_getElem? (i := 13) rfl))
theorem hdV_J0_coder_7d493 : yJ0_coder_7d493.cls = RJ0 ∧ yJ0_coder_7d493.cls ≠ "java/lang/invoke/MethodHandle" ∧ yJ0_coder_7d493.cls ≠ "java/lang/invoke/VarHandle" ∧ (parseMethodDescriptor yJ0_coder_7d493.desc).map (fun d => d.parameters.length) = some 0 := by decide +kernel
theorem gcV_J0_isLatin1_aae02 {T0 : Cond} {own : String} {i : Nat} (h : Cond.methodLink own i yJ0_isLatin1_aae02 ∈ wsL_law) : GoodIn (T0 :: wsL_law) (wsV own i RJ0 yJ0_isLatin1_aae02 wz_J0_isLatin1_aae02) := gV h (mB10 _ (List.mem_of_getElem? (i := 21) rfl)) (mB10 _ (List.mem_of_getElem? (i := 22) rfl)) (mB10 _ (List.mem_of_getElem? (i := 7) rfl)) (mB10 _ (List.mem_of_getElem? (i := 23) rfl))
theorem hdV_J0_isLatin1_aae02 : yJ0_isLatin1_aae02.cls = RJ0 ∧ yJ0_isLatin1_aae02.cls ≠ "java/lang/invoke/MethodHandle" ∧ yJ0_isLatin1_aae02.cls ≠ "java/lang/invoke/VarHandle" ∧ (parseMethodDescriptor yJ0_isLatin1_aae02.desc).map (fun d => d.parameters.length) = some 0 := by decide +kernel
theorem lenZ_lt : ∀ i, i < 15 → lenZ.getD i 0 < 10 := by decide
theorem shr0 : ∀ n, n < 10 → (Int32.ofNat n) >>> ((0 : Int32) &&& 31) = Int32.ofNat n := by decide
def wz_J0_length_8abf5 : List Cond := .code yJ0_length_8abf5 cJ0_length_8abf5 1 (some .int) :: wsL_law
abbrev r_J0_length_8abf5 : Room := { frames := 1, cells := 0, slots := 0, locals := 20 }
set_option maxHeartbeats 4000000 in
set_option maxRecDepth 100000 in
theorem c_J0_length_8abf5 (l : Launch) (adK adV : Nat → Nat) (tF : Nat) (i : Nat) (hi : i < 15) : Met l yJ0_length_8abf5 wz_J0_length_8abf5 r_J0_length_8abf5 (va_Pc [.ref (adK i)] (SS adK adV tF nOne)) (va_Qi (fun r (_ : Unit) => r = Int32.ofNat (lenZ.getD i 0)) BN nOne) 0 0 nOne := by
  refine Met.ofW (cc := cJ0_length_8abf5) (maxL := 1) (ret := (some .int)) (by decide) rfl ?_
  intro p e s m args below meth c s₁ B hml hv
  obtain ⟨hargs, hZ⟩ := hv
  have hx := B.exec
  have hb := B.bytes
  have hr := B.returns
  have hts := atoms_spec (ws := wz_J0_length_8abf5) B.pre
  have htl : ∀ w ∈ wsL_law, w.before args s = true := fun w h => hts w (List.mem_cons_of_mem _ h)
  have hown : s.vm.findClass RJ0 = some m.cls := findClass_of_methodNamed B.named
  have hlocks := B.notSynchronized
  have hS : va_S nOne s.heap s.heap [] := va_S.rf
  have hen : entryFrame m args 1 = entryFrame m (([.ref (adK i)] : List Value).toArray) 1 := by rw [hargs]
  have hl := lv_entry ([.ref (adK i)]) (n := 1) (Nat.le_of_ble_eq_true rfl)
  rw [hen, lg_entry_eq]
  generalize (lg_sl ([.ref (adK i)]) ++ List.replicate (1 - (lg_sl ([.ref (adK i)])).length) Slot.unset).toArray = ls at hl ⊢
  refine lv_aload_n hx hb dJ0_length_8abf5_0 rfl (lv_at hl 0 rfl) ?_
  refine vk_getf hx hb (hZ.1.1 i hi).2.2.1 hS hown (htl _ (mB10 _ (List.mem_of_getElem? (i := 9) rfl))) (fun _ h9 => h9) dJ0_length_8abf5_1 ?_
  refine va_tlen hx hb (hZ.1.1 i hi).2.2.2 hS rfl dJ0_length_8abf5_4 ?_
  refine lv_aload_n hx hb dJ0_length_8abf5_5 rfl (lv_at hl 0 rfl) ?_
  refine roZ_Vi (As := []) (rest := [.int (Int32.ofNat (lenZ.getD i 0))]) ⟨hx, hb, hml, hown, hts⟩ (c_J0_coder_7d493 l adK adV tF i hi) (cwV 0 hts (gcV_J0_coder_7d493 (mB10 _ (List.mem_of_getElem? (i := 10) rfl))) rfl rfl rfl hdV_J0_coder_7d493 ⟨Nat.le_of_ble_eq_true rfl, Nat.le_of_ble_eq_true rfl⟩) hZ hS (vk_recv hZ.1 hi hS) rfl hl.1 rfl (Nat.le_of_ble_eq_true rfl) dJ0_length_8abf5_6 ⟨Nat.zero_le _, Nat.zero_le _⟩ (fun H locs hk hS => ?_)
  refine lv_ishr hx hb dJ0_length_8abf5_9 ?_
  exact W.iret (v := Int32.ofNat (lenZ.getD i 0) >>> ((0 : Int32) &&& 31)) hx hb hr (fun t ht hW => ⟨⟨_, (), rfl, shr0 _ (lenZ_lt i hi), trivial⟩, hS.F ht⟩) hS.2.2 dJ0_length_8abf5_10
def wz_J3_checkIndex_8e157 : List Cond := .code yJ3_checkIndex_8e157 cJ3_checkIndex_8e157 3 (some .int) :: wsL_law
abbrev r_J3_checkIndex_8e157 : Room := { frames := 0, cells := 0, slots := 0, locals := 0 }
set_option maxHeartbeats 4000000 in
set_option maxRecDepth 100000 in
theorem c_J3_checkIndex_8e157_n (l : Launch) (adK adV : Nat → Nat) (tF : Nat) (i n : Int32) (h0 : ¬ i < 0) (h1 : i < n) : Met l yJ3_checkIndex_8e157 wz_J3_checkIndex_8e157 r_J3_checkIndex_8e157 (va_Pc [.int i, .int n, .null] (SS adK adV tF nOne)) (va_Qi (fun r (_ : Unit) => r = i) BN nOne) 0 0 nOne := by
  refine Met.ofW (cc := cJ3_checkIndex_8e157) (maxL := 3) (ret := (some .int)) (by decide) rfl ?_
  intro p e s m args below meth c s₁ B hml hv
  obtain ⟨hargs, hZ⟩ := hv
  have hx := B.exec
  have hb := B.bytes
  have hr := B.returns
  have hts := atoms_spec (ws := wz_J3_checkIndex_8e157) B.pre
  have htl : ∀ w ∈ wsL_law, w.before args s = true := fun w h => hts w (List.mem_cons_of_mem _ h)
  have hown : s.vm.findClass RJ3 = some m.cls := findClass_of_methodNamed B.named
  have hlocks := B.notSynchronized
  have hS : va_S nOne s.heap s.heap [] := va_S.rf
  have hen : entryFrame m args 3 = entryFrame m (([.int i, .int n, .null] : List Value).toArray) 3 := by rw [hargs]
  have hl := lv_entry ([.int i, .int n, .null]) (n := 3) (Nat.le_of_ble_eq_true rfl)
  rw [hen, lg_entry_eq]
  generalize (lg_sl ([.int i, .int n, .null]) ++ List.replicate (3 - (lg_sl ([.int i, .int n, .null])).length) Slot.unset).toArray = ls at hl ⊢
  refine lv_iload_n hx hb dJ3_checkIndex_8e157_0 rfl (lv_at hl 0 rfl) ?_
  refine lv_if_lt (tgt := 9) hx hb dJ3_checkIndex_8e157_1 (by decide) (fun c1 => absurd c1 h0) (fun c1 => ?_)
  refine lv_iload_n hx hb dJ3_checkIndex_8e157_4 rfl (lv_at hl 0 rfl) ?_
  refine lv_iload_n hx hb dJ3_checkIndex_8e157_5 rfl (lv_at hl 1 rfl) ?_
  refine lv_icmp_lt (tgt := 16) hx hb dJ3_checkIndex_8e157_6 (by decide) (fun c1 => ?_) (fun c1 => absurd h1 c1)
  refine lv_iload_n hx hb dJ3_checkIndex_8e157_16 rfl (lv_at hl 0 rfl) ?_
  exact W.iret (v := i) hx hb hr (fun t ht hW => ⟨⟨i, (), rfl, rfl, trivial⟩, hS.F ht⟩) hS.2.2 dJ3_checkIndex_8e157_17
set_option maxHeartbeats 4000000 in
set_option maxRecDepth 100000 in
theorem c_J3_checkIndex_8e157_r (l : Launch) (adK adV : Nat → Nat) (tF : Nat) (i n : Int32) (t9 : Nat) (h0 : ¬ i < 0) (h1 : i < n) : Met l yJ3_checkIndex_8e157 wz_J3_checkIndex_8e157 r_J3_checkIndex_8e157 (va_Pc [.int i, .int n, .ref t9] (SS adK adV tF nOne)) (va_Qi (fun r (_ : Unit) => r = i) BN nOne) 0 0 nOne := by
  refine Met.ofW (cc := cJ3_checkIndex_8e157) (maxL := 3) (ret := (some .int)) (by decide) rfl ?_
  intro p e s m args below meth c s₁ B hml hv
  obtain ⟨hargs, hZ⟩ := hv
  have hx := B.exec
  have hb := B.bytes
  have hr := B.returns
  have hts := atoms_spec (ws := wz_J3_checkIndex_8e157) B.pre
  have htl : ∀ w ∈ wsL_law, w.before args s = true := fun w h => hts w (List.mem_cons_of_mem _ h)
  have hown : s.vm.findClass RJ3 = some m.cls := findClass_of_methodNamed B.named
  have hlocks := B.notSynchronized
  have hS : va_S nOne s.heap s.heap [] := va_S.rf
  have hen : entryFrame m args 3 = entryFrame m (([.int i, .int n, .ref t9] : List Value).toArray) 3 := by rw [hargs]
  have hl := lv_entry ([.int i, .int n, .ref t9]) (n := 3) (Nat.le_of_ble_eq_true rfl)
  rw [hen, lg_entry_eq]
  generalize (lg_sl ([.int i, .int n, .ref t9]) ++ List.replicate (3 - (lg_sl ([.int i, .int n, .ref t9])).length) Slot.unset).toArray = ls at hl ⊢
  refine lv_iload_n hx hb dJ3_checkIndex_8e157_0 rfl (lv_at hl 0 rfl) ?_
  refine lv_if_lt (tgt := 9) hx hb dJ3_checkIndex_8e157_1 (by decide) (fun c1 => absurd c1 h0) (fun c1 => ?_)
  refine lv_iload_n hx hb dJ3_checkIndex_8e157_4 rfl (lv_at hl 0 rfl) ?_
  refine lv_iload_n hx hb dJ3_checkIndex_8e157_5 rfl (lv_at hl 1 rfl) ?_
  refine lv_icmp_lt (tgt := 16) hx hb dJ3_checkIndex_8e157_6 (by decide) (fun c1 => ?_) (fun c1 => absurd h1 c1)
  refine lv_iload_n hx hb dJ3_checkIndex_8e157_16 rfl (lv_at hl 0 rfl) ?_
  exact W.iret (v := i) hx hb hr (fun t ht hW => ⟨⟨i, (), rfl, rfl, trivial⟩, hS.F ht⟩) hS.2.2 dJ3_checkIndex_8e157_17
theorem c_J3_checkIndex_8e157 (l : Launch) (adK adV : Nat → Nat) (tF : Nat) (i n : Int32) (h0 : ¬ i < 0) (h1 : i < n) : Met l yJ3_checkIndex_8e157 wz_J3_checkIndex_8e157 r_J3_checkIndex_8e157 (va_Pc [.int i, .int n, rvF tF] (SS adK adV tF nOne)) (va_Qi (fun r (_ : Unit) => r = i) BN nOne) 0 0 nOne := by
  cases tF with
  | zero => exact c_J3_checkIndex_8e157_n l adK adV 0 i n h0 h1
  | succ t => exact c_J3_checkIndex_8e157_r l adK adV (t + 1) i n t h0 h1
theorem gcS_J3_checkIndex_8e157 {T0 : Cond} {own : String} {i : Nat} (h : Cond.methodLink own i yJ3_checkIndex_8e157 ∈ wsL_law) : GoodIn (T0 :: wsL_law) (va_wsS own i yJ3_checkIndex_8e157 wz_J3_checkIndex_8e157) := gS h (mB11 _ (List.mem_of_getElem? (i := 9) rfl)) (mB11 _ (List.mem_of_getElem? (i := 10) rfl)) (mB11 _ (List.mem_of_getElem? (i := 11) rfl))
theorem hdS_J3_checkIndex_8e157 : yJ3_checkIndex_8e157.cls ≠ "java/lang/invoke/MethodHandle" ∧ yJ3_checkIndex_8e157.cls ≠ "java/lang/invoke/VarHandle" ∧ (parseMethodDescriptor yJ3_checkIndex_8e157.desc).map (fun d => d.parameters.length) = some 3 := by decide +kernel
def wz_J0_checkIndex_df160 : List Cond := .code yJ0_checkIndex_df160 cJ0_checkIndex_df160 2 none :: wsL_law
abbrev r_J0_checkIndex_df160 : Room := { frames := 1, cells := 0, slots := 0, locals := 22 }
set_option maxHeartbeats 4000000 in
set_option maxRecDepth 100000 in
theorem c_J0_checkIndex_df160 (l : Launch) (adK adV : Nat → Nat) (tF : Nat) (i n : Int32) (h0 : ¬ i < 0) (h1 : i < n) : Met l yJ0_checkIndex_df160 wz_J0_checkIndex_df160 r_J0_checkIndex_df160 (va_Pc [.int i, .int n] (SS adK adV tF nOne)) (va_Qv (fun (_ : Unit) => True) BN nOne) 0 0 nOne := by
  refine Met.ofW (cc := cJ0_checkIndex_df160) (maxL := 2) (ret := none) (by decide) rfl ?_
  intro p e s m args below meth c s₁ B hml hv
  obtain ⟨hargs, hZ⟩ := hv
  have hx := B.exec
  have hb := B.bytes
  have hr := B.returns
  have hts := atoms_spec (ws := wz_J0_checkIndex_df160) B.pre
  have htl : ∀ w ∈ wsL_law, w.before args s = true := fun w h => hts w (List.mem_cons_of_mem _ h)
  have hown : s.vm.findClass RJ0 = some m.cls := findClass_of_methodNamed B.named
  have hlocks := B.notSynchronized
  have hS : va_S nOne s.heap s.heap [] := va_S.rf
  have hen : entryFrame m args 2 = entryFrame m (([.int i, .int n] : List Value).toArray) 2 := by rw [hargs]
  have hl := lv_entry ([.int i, .int n]) (n := 2) (Nat.le_of_ble_eq_true rfl)
  rw [hen, lg_entry_eq]
  generalize (lg_sl ([.int i, .int n]) ++ List.replicate (2 - (lg_sl ([.int i, .int n])).length) Slot.unset).toArray = ls at hl ⊢
  refine lv_iload_n hx hb dJ0_checkIndex_df160_0 rfl (lv_at hl 0 rfl) ?_
  refine lv_iload_n hx hb dJ0_checkIndex_df160_1 rfl (lv_at hl 1 rfl) ?_
  refine va_gets hx hb hZ.2.2.1 hS hown (htl _ (mB11 _ (List.mem_of_getElem? (i := 7) rfl))) (fun _ h9 => h9) dJ0_checkIndex_df160_2 ?_
  refine roZ_Si (As := [.int i, .int n, rvF tF]) (rest := []) ⟨hx, hb, hml, hown, hts⟩ (c_J3_checkIndex_8e157 l adK adV tF i n h0 h1) (va_cwS 3 hts (gcS_J3_checkIndex_8e157 (mB11 _ (List.mem_of_getElem? (i := 8) rfl))) rfl rfl rfl hdS_J3_checkIndex_8e157 ⟨Nat.le_of_ble_eq_true rfl, Nat.le_of_ble_eq_true rfl⟩) hZ hS rfl hl.1 rfl (Nat.le_of_ble_eq_true rfl) dJ0_checkIndex_df160_5 ⟨Nat.zero_le _, Nat.zero_le _⟩ (fun H locs hk hS => ?_)
  refine lv_pop hx hb dJ0_checkIndex_df160_8 rfl ?_
  exact W.vret hx hb hr (fun t ht hW => ⟨⟨(), rfl, trivial, trivial⟩, hS.F ht⟩) hS.2.2 dJ0_checkIndex_df160_9
theorem gcS_J0_checkIndex_df160 {T0 : Cond} {own : String} {i : Nat} (h : Cond.methodLink own i yJ0_checkIndex_df160 ∈ wsL_law) : GoodIn (T0 :: wsL_law) (va_wsS own i yJ0_checkIndex_df160 wz_J0_checkIndex_df160) := gS h (mB11 _ (List.mem_of_getElem? (i := 5) rfl)) (mB10 _ (List.mem_of_getElem? (i := 7) rfl)) (mB11 _ (List.mem_of_getElem? (i := 6) rfl))
theorem hdS_J0_checkIndex_df160 : yJ0_checkIndex_df160.cls ≠ "java/lang/invoke/MethodHandle" ∧ yJ0_checkIndex_df160.cls ≠ "java/lang/invoke/VarHandle" ∧ (parseMethodDescriptor yJ0_checkIndex_df160.desc).map (fun d => d.parameters.length) = some 2 := by decide +kernel
def wz_J1_charAt_3b067 : List Cond := .code yJ1_charAt_3b067 cJ1_charAt_3b067 2 (some .char) :: wsL_law
abbrev r_J1_charAt_3b067 : Room := { frames := 2, cells := 0, slots := 0, locals := 43 }
set_option maxHeartbeats 4000000 in
set_option maxRecDepth 100000 in
theorem c_J1_charAt_3b067 (l : Launch) (adK adV : Nat → Nat) (tF : Nat) (i : Nat) (k : Int32) (hi : i < 15) (hk0 : vpb k (lenZ.getD i 0) = true) : Met l yJ1_charAt_3b067 wz_J1_charAt_3b067 r_J1_charAt_3b067 (va_Pc [.ref (adV i), .int k] (SS adK adV tF nOne)) (va_Qi (fun r (_ : Unit) => r = chZ i k.toNatClampNeg) BN nOne) 0 0 nOne := by
  refine Met.ofW (cc := cJ1_charAt_3b067) (maxL := 2) (ret := (some .char)) (by decide) rfl ?_
  intro p e s m args below meth c s₁ B hml hv
  obtain ⟨hargs, hZ⟩ := hv
  have hx := B.exec
  have hb := B.bytes
  have hr := B.returns
  have hts := atoms_spec (ws := wz_J1_charAt_3b067) B.pre
  have htl : ∀ w ∈ wsL_law, w.before args s = true := fun w h => hts w (List.mem_cons_of_mem _ h)
  have hown : s.vm.findClass RJ1 = some m.cls := findClass_of_methodNamed B.named
  have hlocks := B.notSynchronized
  have hS : va_S nOne s.heap s.heap [] := va_S.rf
  have hen : entryFrame m args 2 = entryFrame m (([.ref (adV i), .int k] : List Value).toArray) 2 := by rw [hargs]
  have hl := lv_entry ([.ref (adV i), .int k]) (n := 2) (Nat.le_of_ble_eq_true rfl)
  rw [hen, lg_entry_eq]
  generalize (lg_sl ([.ref (adV i), .int k]) ++ List.replicate (2 - (lg_sl ([.ref (adV i), .int k])).length) Slot.unset).toArray = ls at hl ⊢
  have h0 : ¬ k < 0 := vpb_nn hk0
  have h1 : k < Int32.ofNat (lenZ.getD i 0) := by
    obtain ⟨j, hj, e9⟩ := vp_in_of (vpb_in hk0) (by have := lenZ_lt i hi; omega)
    rw [e9]
    exact nI_lt hj (by have := lenZ_lt i hi; omega)
  refine lv_iload_n hx hb dJ1_charAt_3b067_0 rfl (lv_at hl 1 rfl) ?_
  refine lv_aload_n hx hb dJ1_charAt_3b067_1 rfl (lv_at hl 0 rfl) ?_
  refine va_tlen hx hb (hZ.1.1 i hi).2.2.2 hS rfl dJ1_charAt_3b067_2 ?_
  refine roZ_Sv (As := [.int k, .int (Int32.ofNat (lenZ.getD i 0))]) (rest := []) ⟨hx, hb, hml, hown, hts⟩ (c_J0_checkIndex_df160 l adK adV tF k _ h0 h1) (va_cwS 2 hts (gcS_J0_checkIndex_df160 (mB11 _ (List.mem_of_getElem? (i := 4) rfl))) rfl rfl rfl hdS_J0_checkIndex_df160 ⟨Nat.le_of_ble_eq_true rfl, Nat.le_of_ble_eq_true rfl⟩) hZ hS rfl hl.1 rfl (Nat.le_of_ble_eq_true rfl) dJ1_charAt_3b067_3 ⟨Nat.zero_le _, Nat.zero_le _⟩ (fun H locs hk hS => ?_)
  refine lv_aload_n hx hb dJ1_charAt_3b067_6 rfl (lv_at hl 0 rfl) ?_
  refine lv_iload_n hx hb dJ1_charAt_3b067_7 rfl (lv_at hl 1 rfl) ?_
  refine va_tb hx hb (hZ.1.1 i hi).2.2.2 hS (vpb_in hk0) rfl dJ1_charAt_3b067_8 ?_
  refine lv_sipush (v := 255) hx hb dJ1_charAt_3b067_9 (by decide) ?_
  refine lv_iand hx hb dJ1_charAt_3b067_12 ?_
  refine lv_i2c (v := chZ i k.toNatClampNeg) hx hb dJ1_charAt_3b067_13 rfl ?_
  exact W.zret (v := chZ i k.toNatClampNeg) hx hb hr (pk_nc _) (fun t ht hW => ⟨⟨_, (), rfl, rfl, trivial⟩, hS.F ht⟩) hS.2.2 dJ1_charAt_3b067_14
theorem gcS_J1_charAt_3b067 {T0 : Cond} {own : String} {i : Nat} (h : Cond.methodLink own i yJ1_charAt_3b067 ∈ wsL_law) : GoodIn (T0 :: wsL_law) (va_wsS own i yJ1_charAt_3b067 wz_J1_charAt_3b067) := gS h (mB11 _ (List.mem_of_getElem? (i := 1) rfl)) (mB11 _ (List.mem_of_getElem? (i := 2) rfl)) (mB11 _ (List.mem_of_getElem? (i := 3) rfl))
theorem hdS_J1_charAt_3b067 : yJ1_charAt_3b067.cls ≠ "java/lang/invoke/MethodHandle" ∧ yJ1_charAt_3b067.cls ≠ "java/lang/invoke/VarHandle" ∧ (parseMethodDescriptor yJ1_charAt_3b067.desc).map (fun d => d.parameters.length) = some 2 := by decide +kernel
def wz_J0_charAt_5068e : List Cond := .code yJ0_charAt_5068e cJ0_charAt_5068e 2 (some .char) :: wsL_law
abbrev r_J0_charAt_5068e : Room := { frames := 3, cells := 0, slots := 0, locals := 64 }
set_option maxHeartbeats 4000000 in
set_option maxRecDepth 100000 in
theorem c_J0_charAt_5068e (l : Launch) (adK adV : Nat → Nat) (tF : Nat) (i : Nat) (k : Int32) (hi : i < 15) (hk0 : vpb k (lenZ.getD i 0) = true) : Met l yJ0_charAt_5068e wz_J0_charAt_5068e r_J0_charAt_5068e (va_Pc [.ref (adK i), .int k] (SS adK adV tF nOne)) (va_Qi (fun r (_ : Unit) => r = chZ i k.toNatClampNeg) BN nOne) 0 0 nOne := by
  refine Met.ofW (cc := cJ0_charAt_5068e) (maxL := 2) (ret := (some .char)) (by decide) rfl ?_
  intro p e s m args below meth c s₁ B hml hv
  obtain ⟨hargs, hZ⟩ := hv
  have hx := B.exec
  have hb := B.bytes
  have hr := B.returns
  have hts := atoms_spec (ws := wz_J0_charAt_5068e) B.pre
  have htl : ∀ w ∈ wsL_law, w.before args s = true := fun w h => hts w (List.mem_cons_of_mem _ h)
  have hown : s.vm.findClass RJ0 = some m.cls := findClass_of_methodNamed B.named
  have hlocks := B.notSynchronized
  have hS : va_S nOne s.heap s.heap [] := va_S.rf
  have hen : entryFrame m args 2 = entryFrame m (([.ref (adK i), .int k] : List Value).toArray) 2 := by rw [hargs]
  have hl := lv_entry ([.ref (adK i), .int k]) (n := 2) (Nat.le_of_ble_eq_true rfl)
  rw [hen, lg_entry_eq]
  generalize (lg_sl ([.ref (adK i), .int k]) ++ List.replicate (2 - (lg_sl ([.ref (adK i), .int k])).length) Slot.unset).toArray = ls at hl ⊢
  refine lv_aload_n hx hb dJ0_charAt_5068e_0 rfl (lv_at hl 0 rfl) ?_
  refine roZ_Vi (As := []) (rest := []) ⟨hx, hb, hml, hown, hts⟩ (c_J0_isLatin1_aae02 l adK adV tF i hi) (cwV 0 hts (gcV_J0_isLatin1_aae02 (mB10 _ (List.mem_of_getElem? (i := 20) rfl))) rfl rfl rfl hdV_J0_isLatin1_aae02 ⟨Nat.le_of_ble_eq_true rfl, Nat.le_of_ble_eq_true rfl⟩) hZ hS (vk_recv hZ.1 hi hS) rfl hl.1 rfl (Nat.le_of_ble_eq_true rfl) dJ0_charAt_5068e_1 ⟨Nat.zero_le _, Nat.zero_le _⟩ (fun H locs hk hS => ?_)
  refine lv_if_eq (tgt := 16) hx hb dJ0_charAt_5068e_4 (by decide) (fun c1 => absurd c1 (by decide)) (fun c1 => ?_)
  refine lv_aload_n hx hb dJ0_charAt_5068e_7 rfl (lv_at hl 0 rfl) ?_
  refine vk_getf hx hb (hZ.1.1 i hi).2.2.1 hS hown (htl _ (mB10 _ (List.mem_of_getElem? (i := 9) rfl))) (fun _ h9 => h9) dJ0_charAt_5068e_8 ?_
  refine lv_iload_n hx hb dJ0_charAt_5068e_11 rfl (lv_at hl 1 rfl) ?_
  refine roZ_Si (As := [.ref (adV i), .int k]) (rest := []) ⟨hx, hb, hml, hown, hts⟩ (c_J1_charAt_3b067 l adK adV tF i k hi hk0) (va_cwS 2 hts (gcS_J1_charAt_3b067 (mB11 _ (List.mem_of_getElem? (i := 0) rfl))) rfl rfl rfl hdS_J1_charAt_3b067 ⟨Nat.le_of_ble_eq_true rfl, Nat.le_of_ble_eq_true rfl⟩) hZ hS rfl hl.1 rfl (Nat.le_of_ble_eq_true rfl) dJ0_charAt_5068e_12 ⟨Nat.zero_le _, Nat.zero_le _⟩ (fun H locs hk hS => ?_)
  exact W.zret (v := chZ i k.toNatClampNeg) hx hb hr (pk_nc _) (fun t ht hW => ⟨⟨_, (), rfl, rfl, trivial⟩, hS.F ht⟩) hS.2.2 dJ0_charAt_5068e_15
theorem gcV_J0_length_8abf5 {T0 : Cond} {own : String} {i : Nat} (h : Cond.methodLink own i yJ0_length_8abf5 ∈ wsL_law) : GoodIn (T0 :: wsL_law) (wsV own i RJ0 yJ0_length_8abf5 wz_J0_length_8abf5) := gV h (mB10 _ (List.mem_of_getElem? (i := 5) rfl)) (mB10 _ (List.mem_of_getElem? (i := 6) rfl)) (mB10 _ (List.mem_of_getElem? (i := 7) rfl)) (mB10 _ (List.mem_of_getElem? (i := 8) rfl))
theorem hdV_J0_length_8abf5 : yJ0_length_8abf5.cls = RJ0 ∧ yJ0_length_8abf5.cls ≠ "java/lang/invoke/MethodHandle" ∧ yJ0_length_8abf5.cls ≠ "java/lang/invoke/VarHandle" ∧ (parseMethodDescriptor yJ0_length_8abf5.desc).map (fun d => d.parameters.length) = some 0 := by decide +kernel
theorem gcV_J0_charAt_5068e {T0 : Cond} {own : String} {i : Nat} (h : Cond.methodLink own i yJ0_charAt_5068e ∈ wsL_law) : GoodIn (T0 :: wsL_law) (wsV own i RJ0 yJ0_charAt_5068e wz_J0_charAt_5068e) := gV h (mB10 _ (List.mem_of_getElem? (i := 17) rfl)) (mB10 _ (List.mem_of_getElem? (i := 18) rfl)) (mB10 _ (List.mem_of_getElem? (i := 7) rfl)) (mB10 _ (List.mem_of_getElem? (i := 19) rfl))
theorem hdV_J0_charAt_5068e : yJ0_charAt_5068e.cls = RJ0 ∧ yJ0_charAt_5068e.cls ≠ "java/lang/invoke/MethodHandle" ∧ yJ0_charAt_5068e.cls ≠ "java/lang/invoke/VarHandle" ∧ (parseMethodDescriptor yJ0_charAt_5068e.desc).map (fun d => d.parameters.length) = some 1 := by decide +kernel
