def va_AOA (ty : FieldType) (U : State) : Prop := (Cond.arrayOver (.array ty)).before #[] U = true
theorem va_AOA.use {ty : FieldType} {A : Array Value} {U : State} (h : va_AOA ty U) : (Cond.arrayOver (.array ty)).before A U = true := h
/-! ===== BEGIN words of one list among another's, by their places ===== -/
theorem goodIn_r {big : List Cond} (ws : List Cond) (ps : List Nat) (hp : ws = ps.filterMap (fun i => big[i]?)) (h : ws.all goodWord = true) : GoodIn big ws := by
  intro w hw
  have h1 := List.all_eq_true.mp h w hw
  rw [hp] at hw
  obtain ⟨i, -, hi⟩ := List.mem_filterMap.mp hw
  have hm : w ∈ big := by first | exact List.mem_of_getElem? hi | exact List.getElem?_mem hi
  exact ⟨hm, good_of_word h1⟩
theorem goodIn_app {big a b : List Cond} (ha : GoodIn big a) (hb : GoodIn big b) : GoodIn big (a ++ b) := fun w h => (List.mem_append.mp h).elim (ha w) (hb w)
theorem goodIn_ca {big a b : List Cond} {c : Cond} (ha : GoodIn big (c :: a)) (hb : GoodIn big b) : GoodIn big (c :: (a ++ b)) := fun w h => (List.mem_cons.mp h).elim (fun e => ha w (List.mem_cons.mpr (Or.inl e))) (fun h => (List.mem_append.mp h).elim (fun h => ha w (List.mem_cons.mpr (Or.inr h))) (hb w))
theorem goodIn_sub {big ws : List Cond} (hm : ∀ w ∈ ws, w ∈ big) (h : ws.all goodWord = true) : GoodIn big ws := fun w hw => ⟨hm w hw, good_of_word (List.all_eq_true.mp h w hw)⟩
/-! ===== END ===== -/

/-! ===== BEGIN new T[n][m]: the outer array a place, the inner ones among the pooled ===== -/
/-- f, but v at every address of l -/
def vr_up {α : Type} (f : Nat → α) (l : List Nat) (v : α) : Nat → α := fun a => if a ∈ l then v else f a
theorem vr_up_in {α : Type} {f : Nat → α} {l : List Nat} {v : α} {a : Nat} (h : a ∈ l) : vr_up f l v a = v := if_pos h
theorem vr_up_ne {α : Type} {f : Nat → α} {l : List Nat} {v : α} {a : Nat} (h : a ∉ l) : vr_up f l v a = f a := if_neg h
theorem vr_rows {L l : List Nat} {f : Nat → va_E} {e : va_E} (h : ∀ a, a ∈ l → a ∉ L) : va_pl L f ++ l.map (fun a => (a, e)) = va_pl (L ++ l) (vr_up f l e) := by
  unfold va_pl
  rw [List.map_append]
  congr 1
  · apply List.map_congr_left
    intro a ha
    rw [vr_up_ne (fun q => h a q ha)]
  · apply List.map_congr_left
    intro a ha
    rw [vr_up_in ha]
theorem vr_lay {X rows : va_W} {x : Nat × va_E} {pl : va_W} {D : va_G} {cl : List vw_C} {H : Heap} (hP : va_P D cl (((X ++ pl) ++ [x]) ++ rows) H) : va_P D cl ((X ++ [x]) ++ (pl ++ rows)) H := by
  rw [List.append_assoc (X ++ pl)] at hP
  have h := va_P.swap hP
  rw [← List.append_assoc X] at h
  have h2 := va_P.swap h
  rw [List.append_assoc (X ++ [x])] at h2
  exact h2
theorem vr_layD {X rows : va_W} {x : Nat × va_E} {pl : va_W} {A : Nat → Prop} (hD : va_D A (((X ++ pl) ++ [x]) ++ rows)) : va_D A ((X ++ [x]) ++ (pl ++ rows)) := by
  rw [List.append_assoc (X ++ pl)] at hD
  have h := va_D.swap hD
  rw [← List.append_assoc X] at h
  have h2 := va_D.swap h
  rw [List.append_assoc (X ++ [x])] at h2
  exact h2
theorem vr_outer (c : ClassId) (N h0 : Nat) : ∀ i : Nat, Jvm.Free.Multi.outerC c N h0 i = arrV c N (fun j => va_rf (if j < i then some (h0 + 1 + j) else none))
  | 0 => by
    show ({ cls := c, slots := Array.replicate N .null, vm := .none } : Cell) = _
    rw [arrV_new]
    refine congrArg (arrV c N) (funext fun j => ?_)
    simp [va_rf]
  | i + 1 => by
    show (Jvm.Free.Multi.outerC c N h0 i).setSlot i (.ref (h0 + 1 + i)) = _
    rw [vr_outer c N h0 i, arrV_store]
    refine congrArg (arrV c N) (funext fun j => ?_)
    by_cases e : j = i
    · subst e
      simp [updV, va_rf]
    · by_cases h : j < i
      · simp [updV, e, h, Nat.lt_succ_of_lt h]
      · simp [updV, e, h, show ¬ j < i + 1 by omega]
section VGM
variable {p : Program} {l : Launch} {e : Env} {R : Room} {s : State} {m : MethodId} {args : Array Value} {below : List Frame} {meth : Method} {c : Code} {H : Heap} {locs : List Loc} {cells slots : Nat} {Q : State → Prop}
variable {cc : ByteArray} {pc : Nat} {ls : Array Slot} {rest : List Value} {D : va_G} {cl : List vw_C} {A : Nat → Prop} {a : Nat} {tys : List (ClassId × FieldType)} {ws : va_W} {H0 : Heap}
theorem va_mna {X : va_W} {L : List Nat} {f : Nat → va_E} {cc : ByteArray} (hexec : p.tables.exec = Jvm.exec) (hb : c.code = cc) {own : String} {index : Nat} {ty : FieldType} {cy : ClassId} (hown : s.vm.findClass own = some m.cls) (hclink : (Cond.classLink own index ("[" ++ (FieldType.array ty).toString)).before args s = true) (hover : va_AOA ty s) (harr : (Cond.arrayClass ty).before args s = true) (hcy : s.vm.findClass (FieldType.array ty).toString = some cy)
    (hK : va_K D cl tys s) (hP : va_P D cl (X ++ va_pl L f) H) (hD : va_D A (X ++ va_pl L f)) (hS : va_S A H0 H locs) (hA : ∀ q, H0.size ≤ q → A q) {n k : Int32} {N' K' : Nat} {z : vp_A} (hn : ¬ n < 0) (hk : ¬ k < 0) (hN : n.toNatClampNeg = N') (hM : k.toNatClampNeg = K')
    (hb1 : N' * 4 ≤ 536870912) (hb2 : K' * componentBytes ty ≤ 536870912) (hb3 : K' ≤ 536870912) (hdf : fits ty (defaultValue ty) = true) (hdd : (defaultValue ty).isDefault = true) (hcells : cells + (1 + N') ≤ R.cells) (hslots : slots + (N' + N' * K') ≤ R.slots) (hz : ∀ c : ClassId, Jvm.Free.Multi.innerC c K' (defaultValue ty) = vp_cell c z) (hdg : decode cc pc = .ok (.multianewarray index 2, 4))
    (kk : ∀ (q : Nat) (r : Nat → Nat) (cA : ClassId) (H1 : Heap), (∀ i j : Nat, i < N' → j < N' → r i = r j → i = j) → (∀ i : Nat, i < N' → r i ∉ L) → va_K D cl (tys ++ [(cA, .array ty)]) s →
      va_P D cl ((X ++ [(q, .inl (cA, N', .inr (.inr (.inr (.inr (fun i => if i < N' then some (r i) else none))))))]) ++ va_pl (L ++ (List.range N').map r) (vr_up f ((List.range N').map r) (.inl (cy, z)))) H1 → va_D A ((X ++ [(q, .inl (cA, N', .inr (.inr (.inr (.inr (fun i => if i < N' then some (r i) else none))))))]) ++ va_pl (L ++ (List.range N').map r) (vr_up f ((List.range N').map r) (.inl (cy, z)))) → va_S A H0 H1 locs →
      W p l e R s m args below meth c H1 locs (cells + 1 + N') (slots + N' + N' * K') Q (F0 m (pc + 4) ls (.ref q :: rest))) : W p l e R s m args below meth c H locs cells slots Q (F0 m pc ls (.int k :: .int n :: rest)) := by
  subst hN
  subst hM
  intro T hT Xs
  obtain ⟨vm₁, cA, comp, -, fA, fC, hO, -, X', step⟩ := Xs.multianewarray2F hexec hown hclink (va_AOA.use hover) harr (g := F0 m pc ls (.int k :: .int n :: rest)) rfl (by rw [hb]; exact hdg) rfl hn hk hb1 hb2 hb3 hdf hdd hcells hslots
  have ec : some cy = some comp := hcy.symm.trans fC
  cases ec
  generalize hF : Jvm.Free.Multi.fill (T.setVm vm₁) cA cy n.toNatClampNeg k.toNatClampNeg (defaultValue ty) n.toNatClampNeg = F at X' step
  have hTh : (T.setVm vm₁).heap = H := hT
  obtain ⟨f1, f2, -, -⟩ := Jvm.Free.Multi.fill_facts (T.setVm vm₁) cA cy n.toNatClampNeg k.toNatClampNeg (defaultValue ty) n.toNatClampNeg
  rw [hF, hTh] at f1 f2
  have hold : ∀ x : Nat, x < H.size → F.heap[x]? = H[x]? := fun x hx => by
    have := Jvm.Free.Multi.fill_old (T.setVm vm₁) cA cy n.toNatClampNeg k.toNatClampNeg (defaultValue ty) (a := x) (by rw [hTh]; exact hx) n.toNatClampNeg
    rw [hF, hTh] at this
    exact this
  have hrow : ∀ j : Nat, j < n.toNatClampNeg → F.heap[H.size + 1 + j]? = some (vp_cell cy z) := fun j hj => by
    have := Jvm.Free.Multi.fill_inner (T.setVm vm₁) cA cy n.toNatClampNeg k.toNatClampNeg (defaultValue ty) n.toNatClampNeg j hj
    rw [hF, hTh, hz] at this
    exact this
  have hout : Jvm.Free.Multi.outerC cA n.toNatClampNeg H.size n.toNatClampNeg = vp_cell cA (n.toNatClampNeg, .inr (.inr (.inr (.inr (fun i => if i < n.toNatClampNeg then some (H.size + 1 + i) else none))))) := by
    rw [vp_cell_q]
    exact vr_outer cA n.toNatClampNeg H.size n.toNatClampNeg
  rw [hout] at f2
  have hlt : ∀ a, a ∈ L → a < H.size := fun a ha => by
    obtain ⟨k9, hk9⟩ := va_pl_get (X := X) (f := f) ha
    exact (hP k9 _ hk9).lt
  have hnl : ∀ i : Nat, i < n.toNatClampNeg → H.size + 1 + i ∉ L := fun i _ h => by
    have := hlt _ h
    omega
  have hnm : ∀ a, a ∈ (List.range n.toNatClampNeg).map (fun i => H.size + 1 + i) → a ∉ L := fun a ha h => by
    obtain ⟨i, -, rfl⟩ := List.mem_map.mp ha
    have := hlt _ h
    omega
  have hP0 : va_P D cl (X ++ va_pl L f) F.heap := hP.kept (fun k9 x hx => hold x.1 ((hP k9 x hx).lt))
  have hP1 : va_P D cl ((X ++ va_pl L f) ++ [(H.size, .inl (cA, n.toNatClampNeg, .inr (.inr (.inr (.inr (fun i => if i < n.toNatClampNeg then some (H.size + 1 + i) else none))))))]) F.heap := hP0.app (fun k9 x hx => by
    have h0 : k9 < 1 := (List.getElem?_eq_some_iff.mp hx).1
    rw [show k9 = 0 by omega] at hx
    cases hx
    exact f2)
  have hP2 : va_P D cl (((X ++ va_pl L f) ++ [(H.size, .inl (cA, n.toNatClampNeg, .inr (.inr (.inr (.inr (fun i => if i < n.toNatClampNeg then some (H.size + 1 + i) else none))))))]) ++ ((List.range n.toNatClampNeg).map (fun i => H.size + 1 + i)).map (fun a => (a, .inl (cy, z)))) F.heap := hP1.app (fun k9 x hx => by
    obtain ⟨a, ha, rfl⟩ := List.mem_map.mp (List.mem_of_getElem? hx)
    obtain ⟨i, hi, rfl⟩ := List.mem_map.mp ha
    exact hrow i (List.mem_range.mp hi))
  have hD2 : va_D A (((X ++ va_pl L f) ++ [(H.size, .inl (cA, n.toNatClampNeg, .inr (.inr (.inr (.inr (fun i => if i < n.toNatClampNeg then some (H.size + 1 + i) else none))))))]) ++ ((List.range n.toNatClampNeg).map (fun i => H.size + 1 + i)).map (fun a => (a, .inl (cy, z)))) := by
    have hD1 := hD.push (e := .inl (cA, n.toNatClampNeg, .inr (.inr (.inr (.inr (fun i => if i < n.toNatClampNeg then some (H.size + 1 + i) else none)))))) hP rfl (hA _ hS.1)
    generalize hW1 : (X ++ va_pl L f) ++ [(H.size, .inl (cA, n.toNatClampNeg, .inr (.inr (.inr (.inr (fun i => if i < n.toNatClampNeg then some (H.size + 1 + i) else none))))))] = W1 at hD1 hP1 ⊢
    have hle : ∀ (k9 : Nat) (x : Nat × va_E), W1[k9]? = some x → x.1 ≤ H.size := fun k9 x hx => by
      rw [← hW1] at hx
      by_cases hl : k9 < (X ++ va_pl L f).length
      · rw [List.getElem?_append_left hl] at hx
        exact Nat.le_of_lt ((hP k9 x hx).lt)
      · rw [List.getElem?_append_right (by omega)] at hx
        have h0 : k9 - (X ++ va_pl L f).length < 1 := (List.getElem?_eq_some_iff.mp hx).1
        rw [show k9 - (X ++ va_pl L f).length = 0 by omega] at hx
        cases hx
        exact Nat.le_refl _
    have hr : ∀ (k9 : Nat) (x : Nat × va_E), (((List.range n.toNatClampNeg).map (fun i => H.size + 1 + i)).map (fun a => ((a, .inl (cy, z)) : Nat × va_E)))[k9]? = some x → x.1 = H.size + 1 + k9 := fun k9 x hx => by
      rw [List.getElem?_map, List.getElem?_map] at hx
      by_cases h9 : k9 < n.toNatClampNeg
      · rw [List.getElem?_range h9] at hx
        cases hx
        rfl
      · have hn0 : (List.range n.toNatClampNeg)[k9]? = none := List.getElem?_eq_none (by rw [List.length_range]; omega)
        rw [hn0] at hx
        cases hx
    refine ⟨fun i j x y hi hj hxy => ?_, fun k9 x hx => ?_⟩
    · by_cases h1 : i < W1.length <;> by_cases h2 : j < W1.length
      · rw [List.getElem?_append_left h1] at hi
        rw [List.getElem?_append_left h2] at hj
        exact hD1.1 i j x y hi hj hxy
      · rw [List.getElem?_append_left h1] at hi
        rw [List.getElem?_append_right (by omega)] at hj
        have := hle _ _ hi
        have := hr _ _ hj
        omega
      · rw [List.getElem?_append_right (by omega)] at hi
        rw [List.getElem?_append_left h2] at hj
        have := hle _ _ hj
        have := hr _ _ hi
        omega
      · rw [List.getElem?_append_right (by omega)] at hi hj
        have := hr _ _ hi
        have := hr _ _ hj
        omega
    · by_cases h1 : k9 < W1.length
      · rw [List.getElem?_append_left h1] at hx
        exact hD1.2 k9 x hx
      · rw [List.getElem?_append_right (by omega)] at hx
        have := hr _ _ hx
        exact hA _ (by have := hS.1; omega)
  have hAr : ArrOfT s cA (.array ty) := fun N9 z9 => by
    obtain ⟨-, k9, hk9, cm9, hkk9⟩ := (hO 0 0 0).1
    exact ⟨(fun q hq => by cases hq), k9, hk9, cm9, hkk9⟩
  have hK2 : va_K D cl (tys ++ [(cA, .array ty)]) s := ⟨hK.1, fun k9 x hx => by
    by_cases hl : k9 < tys.length
    · rw [List.getElem?_append_left hl] at hx
      exact hK.2 k9 x hx
    · rw [List.getElem?_append_right (by omega)] at hx
      have h0 : k9 - tys.length < 1 := (List.getElem?_eq_some_iff.mp hx).1
      rw [show k9 - tys.length = 0 by omega] at hx
      cases hx
      exact ⟨hAr, fA⟩⟩
  obtain ⟨t, a1, b1⟩ := kk H.size (fun i => H.size + 1 + i) cA F.heap (fun i j _ _ h => by have h9 : H.size + 1 + i = H.size + 1 + j := h; omega) hnl hK2 (by rw [← vr_rows hnm]; exact vr_lay hP2) (by rw [← vr_rows hnm]; exact vr_layD hD2) ⟨by rw [f1]; have := hS.1; omega, fun x h1 h2 => (hold x (Nat.lt_of_lt_of_le h1 hS.1)).trans (hS.2.1 x h1 h2), hS.2.2⟩ F rfl X'
  refine ⟨t, step t ?_, b1⟩
  have e : T.heap.size = H.size := by rw [hT]
  rw [e]
  exact a1
end VGM
/-! ===== END ===== -/

/-! ===== BEGIN exceptions that leave a method, and their catching by the caller (launches without stack traces) ===== -/
section VXA
/-! The laws vx_back, vx_callV, vx_callS, vx_callSW, vx_throw0, vx_throwS follow proofs of the library, with one case more: JvmDerived/Free/Laws.lean (Back.of_free), Shelf42/LK1.lean (callV, callS), Shelf/KitTraced.lean (throwNew0V, throwNewS). -/
/-- where a method has thrown q: the class by its name, the cell, what was written, the world -/
def vx_T (XC : String → State → State → Prop) (st : State) (q : Addr) (t : State) (mc ms : Nat) (free : Addr → Prop) : Prop :=
  ∃ (E : String) (ce : Cell) (L : List Loc), XC E st t ∧ t.heap[q]? = some ce ∧ ce.vm = .none ∧ st.vm.findClass E = some ce.cls ∧ st.WarmedH t.vm ∧ st.sameButNew ({ t with vm := st.vm } : State) L mc ms ∧ ∀ z ∈ L, free z.base
def vx_Q (Qc : Array Value → State → Outcome → State → Prop) (XC : String → State → State → Prop) (mc ms : Nat) (free : Addr → Prop) : Array Value → State → Outcome → State → Prop := fun a st o t =>
  (Qc a st o t ∧ ∃ L, FrameEnd st o t L mc ms ∧ ∀ q ∈ L, free q.base) ∨ ∃ q, o = .threw q ∧ vx_T XC st q t mc ms free
/-- a callee that returns or throws -/
def vx_Met (l : Launch) (y : MethodName) (ws : List Cond) (rm : Room) (Pc : Array Value → State → Prop) (Qc : Array Value → State → Outcome → State → Prop) (XC : String → State → State → Prop) (mc ms : Nat) (free : Addr → Prop) : Prop :=
  MetFree l y (headSpec ws rm) Pc (fun _ _ _ _ _ => True) (vx_Q Qc XC mc ms free)
def vx_Post (XC : String → State → State → Prop) (mc ms : Nat) (free : Addr → Prop) : Pt → Array Value → Addr → Pt → Prop := fun A a q B =>
  ∃ (g : JFrame) (mk : MethodId) (t : State) (L : List Loc) (E : String) (ce : Cell), B.U.heap = t.heap ∧ B.U.vm = t.vm ∧ XC E (A.U.calling g mk a) t ∧ t.heap[q]? = some ce ∧ ce.vm = .none ∧ A.U.vm.findClass E = some ce.cls ∧ B.locs = A.locs ++ L ∧ (∀ z ∈ L, free z.base) ∧ B.cells = A.cells + mc ∧ B.slots = A.slots + ms
def vx_Back (l : Launch) (R : Room) (p : Program) (e : Env) (below : List Frame) (s : State) (sargs : Array Value) (y : MethodName) (len W9 : Nat)
    (Pre : Pt → Array Value → Prop) (Post : Pt → Array Value → Option Value → Pt → Prop) (PostX : Pt → Array Value → Addr → Pt → Prop) : Prop :=
  ∀ (m : MethodId) (meth : Method) (c : Code) (A : Pt) (g : JFrame) (ig : Instr) (mk : MethodId) (a : Array Value),
    Stand p l e R s m sargs below meth c A.U A.locs A.cells A.slots → g.method = m → g.locals.size = c.maxLocals → decode c.code g.pc = .ok (ig, len) →
    2 * g.monitorRoom + (g.stack.map fun v => v.category).sum ≤ W9 → A.U.methodNamed? y = some mk → Pre A a →
    (∃ (v : Option Value) (B : Pt), Stand p l e R s m sargs below meth c B.U B.locs B.cells B.slots ∧ Post A a v B ∧
      Steps p.tables e below (doInvoke e (A.U.setTop g) [] mk a).1 (B.U.setTop { g with pc := g.pc + len, stack := v.toList ++ g.stack })) ∨
    (∃ (q : Addr) (B : Pt), Stand p l e R s m sargs below meth c B.U B.locs B.cells B.slots ∧ PostX A a q B ∧
      Steps p.tables e below (doInvoke e (A.U.setTop g) [] mk a).1 ((B.U.setTop g).pushFrame (.throwing q)))
section Payer
variable {l : Launch} {R : Room} {p : Program} {e : Env} {below : List Frame} {s : State} {sargs : Array Value} {y : MethodName} {len W9 : Nat}
theorem vx_back {ws : List Cond} {rm : Room} {Pc : Array Value → State → Prop} {Qc : Array Value → State → Outcome → State → Prop} {XC : String → State → State → Prop} {mc ms : Nat} {free : Addr → Prop} {bytes : ByteArray} {maxL : Nat} {ret : Option FieldType}
    (hM : vx_Met l y ws rm Pc Qc XC mc ms free) (hblind : FrameBlind Pc) (hrc : rm.cells = mc) (hrs : rm.slots = ms)
    (hframes : rm.frames + 1 ≤ R.frames) (hlocals : W9 + (maxL + 11) + rm.locals ≤ R.locals)
    (hws : ∀ w ∈ ws, ∀ a' U, s.WarmedH U.vm → w.before a' U = true) (hcode : Cond.code y bytes maxL ret ∈ ws) (hinit : ∀ a' U, s.WarmedH U.vm → (Cond.initialized y.cls).before a' U = true) :
    vx_Back l R p e below s sargs y len W9 (PreOf R mc ms Pc) (PostOf Qc mc ms free) (vx_Post XC mc ms free) := by
  intro m meth c A g ig mk a X hg hsize hdg hW hn hp
  have h1 : (headSpec ws rm).pre.before a A.U = true := atoms_intro fun w hw => hws w hw _ _ X.warmed
  have h2 : (Cond.code y bytes maxL ret).before a A.U = true := hws _ hcode _ _ X.warmed
  have h3 : (Cond.initialized y.cls).before a A.U = true := hinit _ _ X.warmed
  have h4 : A.cells + (headSpec ws rm).room.cells ≤ R.cells := by rw [show (headSpec ws rm).room.cells = mc from hrc]; exact hp.1
  have h5 : A.slots + (headSpec ws rm).room.slots ≤ R.slots := by rw [show (headSpec ws rm).room.slots = ms from hrs]; exact hp.2.1
  have hPc : Pc a (A.U.calling g mk a) := hblind _ _ _ _ hp.2.2
  obtain ⟨U, Ls, c0, s0⟩ := A
  dsimp only [Pt.U, Pt.locs, Pt.cells, Pt.slots] at h1 h2 h3 h4 h5 X hn hPc ⊢
  obtain ⟨methY, cY, hmY, hcY, -, hlY, -, -, -, -⟩ := Cond.code_spec hn h2
  obtain ⟨kY, hkY, -⟩ := className_of_methodNamed hn
  have hinitY : kY.init = .initialized := Cond.initialized_spec (findClass_of_methodNamed hn) hkY h3
  have h : At U g.method c below := by rw [hg]; exact X.here
  have hlocals9 : W9 + (maxL + 11) + (headSpec ws rm).room.locals ≤ R.locals := hlocals
  have happ : (headSpec ws rm).appliesLoose y e.platform (U.calling g mk a) = true :=
    Spec.appliesLoose_calling (g := g) h hdg hn hkY hinitY
      (X.room_calling (g := g) (R' := (headSpec ws rm).room) hsize hmY hcY hframes (by rw [hlY]; omega) h4 h5) h1
  obtain ⟨mid, hmid⟩ := h.above
  have hfr : (U.setTop g).frames = (.java g :: mid) ++ below := by rw [State.frames_setTop' g h.top, hmid]; rfl
  obtain ⟨o, s₂, hsteps, -, hend, hq⟩ := Steps.callFree hM p X.admits X.cas X.clock (acts := []) hfr happ hPc trivial
  have hq' : vx_Q Qc XC mc ms free a (U.calling g mk a) o s₂ := hq
  rw [State.frames_setTop' g h.top] at hend
  obtain ⟨g₀, hg0⟩ := Option.isSome_iff_exists.mp h.top
  obtain ⟨r, hr⟩ := State.topJava?_eq_some.mp hg0
  have hr' : (({ U with heap := s₂.heap, slotsUsed := s₂.slotsUsed } : State).setVm s₂.vm).frames = .java g₀ :: r := hr
  rcases hq' with ⟨hqc, L, hfe, hL⟩ | ⟨q, rfl, E, ce, L, hx, hce, hcv, hcl, hW₂, hsm, hL⟩
  · obtain ⟨⟨v, rfl⟩, hW₂, e2, q2, q3, q4, q5, q6⟩ := id hfe
    have e3 : s₂ = ({ (U.calling g mk a).setFrames s₂.frames with heap := s₂.heap, slotsUsed := s₂.slotsUsed } : State).setVm s₂.vm := by
      have : s₂ = ({ s₂ with vm := (U.calling g mk a).vm } : State).setVm s₂.vm := rfl
      rw [e2] at this
      exact this
    obtain ⟨c₂, i₂, len₂, hc₂, hd₂, hf₂⟩ := hend
    have hW' : U.WarmedH s₂.vm := hW₂
    have hcc : c₂ = c := by
      have h1 : s₂.code? g.method = U.code? g.method := by
        rw [State.code?_eq, State.code?_eq, hW'.alike.method?]
      exact Option.some.inj (hc₂.symm.trans (h1.trans h.code))
    subst hcc
    have hlen : len₂ = len := by rw [hdg] at hd₂; cases hd₂; rfl
    subst hlen
    have hs₂ : s₂ = (({ U with heap := s₂.heap, slotsUsed := s₂.slotsUsed } : State).setVm s₂.vm).setTop { g with pc := g.pc + len₂, stack := v.toList ++ g.stack } := by
      refine e3.trans ?_
      rw [hf₂, State.calling_eq h.top, State.setFrames_setFrames, State.setTop_of_frames _ hr', hr]
      rfl
    have hsame : U.sameButNew ({ U with heap := s₂.heap, slotsUsed := s₂.slotsUsed } : State) L mc ms := by
      refine ⟨?_, q2, q3, q4, q5, q6⟩
      obtain ⟨t, ht, -⟩ := State.frames_cons hr
      show ({ U with heap := s₂.heap, slotsUsed := s₂.slotsUsed } : State) = { U.setFrames U.frames with heap := s₂.heap, slotsUsed := s₂.slotsUsed }
      rw [State.setFrames_self ht]
    subst hg
    refine Or.inl ⟨v, ⟨(({ U with heap := s₂.heap, slotsUsed := s₂.slotsUsed } : State).setVm s₂.vm), Ls ++ L, c0 + mc, s0 + ms⟩,
      ⟨X.admits, X.cas, X.clock, X.frames, X.room, X.hears, X.method, X.code, (X.here.setHeapUsed s₂.heap s₂.slotsUsed).setVm hW'.alike, X.tail, State.WarmedH.trans X.warmed hW', X.limits, X.bytes, X.same.trans (hsame.setVm s.vm)⟩,
      ⟨g, mk, s₂, L, rfl, rfl, hqc, rfl, hL, rfl, rfl⟩, ?_⟩
    show Steps p.tables e below _ ((({ U with heap := s₂.heap, slotsUsed := s₂.slotsUsed } : State).setVm s₂.vm).setTop { g with pc := g.pc + len₂, stack := v.toList ++ g.stack })
    rw [← hs₂]
    exact hsteps
  · obtain ⟨e2, q2, q3, q4, q5, q6⟩ := id hsm
    have e3 : s₂ = ({ (U.calling g mk a).setFrames s₂.frames with heap := s₂.heap, slotsUsed := s₂.slotsUsed } : State).setVm s₂.vm := by
      have : s₂ = ({ s₂ with vm := (U.calling g mk a).vm } : State).setVm s₂.vm := rfl
      rw [e2] at this
      exact this
    have hf₂ : s₂.frames = .throwing q :: .java g :: U.frames.tail := hend
    have hW' : U.WarmedH s₂.vm := hW₂
    have hs₂ : s₂ = ((({ U with heap := s₂.heap, slotsUsed := s₂.slotsUsed } : State).setVm s₂.vm).setTop g).pushFrame (.throwing q) := by
      refine e3.trans ?_
      rw [hf₂, State.calling_eq h.top, State.setFrames_setFrames, State.pushFrame, State.frames_setTop _ hr', State.setTop_of_frames _ hr', State.setFrames_setFrames, hr]
      rfl
    have hsame : U.sameButNew ({ U with heap := s₂.heap, slotsUsed := s₂.slotsUsed } : State) L mc ms := by
      refine ⟨?_, q2, q3, q4, q5, q6⟩
      obtain ⟨t, ht, -⟩ := State.frames_cons hr
      show ({ U with heap := s₂.heap, slotsUsed := s₂.slotsUsed } : State) = { U.setFrames U.frames with heap := s₂.heap, slotsUsed := s₂.slotsUsed }
      rw [State.setFrames_self ht]
    subst hg
    refine Or.inr ⟨q, ⟨(({ U with heap := s₂.heap, slotsUsed := s₂.slotsUsed } : State).setVm s₂.vm), Ls ++ L, c0 + mc, s0 + ms⟩,
      ⟨X.admits, X.cas, X.clock, X.frames, X.room, X.hears, X.method, X.code, (X.here.setHeapUsed s₂.heap s₂.slotsUsed).setVm hW'.alike, X.tail, State.WarmedH.trans X.warmed hW', X.limits, X.bytes, X.same.trans (hsame.setVm s.vm)⟩,
      ⟨g, mk, s₂, L, E, ce, rfl, rfl, hx, hce, hcv, hcl, rfl, hL, rfl, rfl⟩, ?_⟩
    show Steps p.tables e below _ (((({ U with heap := s₂.heap, slotsUsed := s₂.slotsUsed } : State).setVm s₂.vm).setTop g).pushFrame (.throwing q))
    rw [← hs₂]
    exact hsteps
end Payer
section Calls
variable {p : Program} {l : Launch} {e : Env} {R : Room} {s : State} {m : MethodId} {args : Array Value} {below : List Frame} {meth : Method} {c : Code} {T : State} {locs : List Loc} {cells slots : Nat}
theorem vx_callV (X : Stand p l e R s m args below meth c T locs cells slots) (hexec : p.tables.exec = Jvm.exec) {own C : String} {index : Nat} {y : MethodName} {bytes : ByteArray} {maxL : Nat} {ret : Option FieldType}
    (hown : s.vm.findClass own = some m.cls) (hlink : (Cond.methodLink own index y).before args s = true) (hinst : (Cond.instanceMethod y).before args s = true) (hsel : (Cond.selects C y y).before args s = true)
    (hcode : (Cond.code y bytes maxL ret).before args s = true) (hy : y.cls ≠ "java/lang/invoke/MethodHandle" ∧ y.cls ≠ "java/lang/invoke/VarHandle")
    {W9 : Nat} {Pre : Pt → Array Value → Prop} {Post : Pt → Array Value → Option Value → Pt → Prop} {PostX : Pt → Array Value → Addr → Pt → Prop} (hK : vx_Back l R p e below s args y 3 W9 Pre Post PostX)
    {b : Addr} {cellB : Cell} (hcell : T.heap[b]? = some cellB) (hobj : cellB.vm.isStatics = false) (hcls : s.vm.findClass C = some cellB.cls)
    {g : JFrame} (hg : g.method = m) (hsize : g.locals.size = c.maxLocals) {argsL rest : List Value} (hlen : ∀ sig, parseMethodDescriptor y.desc = some sig → argsL.length = sig.parameters.length)
    (hstack : g.stack = argsL.reverse ++ .ref b :: rest) (hW : 2 * g.monitorRoom + (rest.map fun v => v.category).sum ≤ W9) (hdg : decode c.code g.pc = .ok (.invokevirtual index, 3))
    (hpre : ∀ vm₁, s.WarmedH vm₁ → Pre ⟨T.setVm vm₁, locs, cells, slots⟩ (Value.ref b :: argsL).toArray) :
    (∃ (v : Option Value) (vm₁ : Vm) (B : Pt), s.WarmedH vm₁ ∧ Stand p l e R s m args below meth c B.U B.locs B.cells B.slots ∧ Post ⟨T.setVm vm₁, locs, cells, slots⟩ (Value.ref b :: argsL).toArray v B ∧
      ∀ target, Steps p.tables e below (B.U.setTop { g with pc := g.pc + 3, stack := v.toList ++ rest }) target → Steps p.tables e below (T.setTop g) target) ∨
    (∃ (q : Addr) (vm₁ : Vm) (B : Pt), s.WarmedH vm₁ ∧ Stand p l e R s m args below meth c B.U B.locs B.cells B.slots ∧ PostX ⟨T.setVm vm₁, locs, cells, slots⟩ (Value.ref b :: argsL).toArray q B ∧
      Steps p.tables e below (T.setTop g) ((B.U.setTop { g with stack := rest }).pushFrame (.throwing q))) := by
  obtain ⟨mk, methM, hnamed, hmethM, hstM, habM⟩ := Cond.instanceMethod_spec hinst
  obtain ⟨methM', cM, hmethM', -, -, -, -, -, -, hsigM⟩ := Cond.code_spec hnamed hcode
  cases hmethM.symm.trans hmethM'
  obtain ⟨c2, r2, m2, q1, q2, q3, q4, kP, hkP, hkPi⟩ := Cond.selects_spec hsel
  cases hcls.symm.trans q1
  cases (State.methodFound?_of_named hnamed hy).symm.trans q2
  cases hnamed.symm.trans q3
  have hselP : selectMethod e.platform s.vm cellB.cls mk = .method mk := by rw [Launch.admits_selectMethod X.admits]; exact q4
  obtain ⟨vm₁, X₁, hstep₁⟩ := X.invokevirtual hexec hown hlink hnamed hmethM hstM hkP hkPi hy (a := b) (cell := cellB) hcell
    (fun z h => by rw [h] at hobj; cases hobj) hselP hmethM habM hkP hkPi (g := g) hg (argsL := argsL) (rest := rest) (hlen _ hsigM) hstack hdg
  rcases hK m meth c ⟨T.setVm vm₁, locs, cells, slots⟩ { g with stack := rest } (.invokevirtual index) mk (Value.ref b :: argsL).toArray X₁ hg hsize hdg hW (X₁.named hnamed) (hpre vm₁ X₁.warmed) with ⟨v, B, X', hpost, hsteps⟩ | ⟨q, B, X', hpost, hsteps⟩
  · exact Or.inl ⟨v, vm₁, B, X₁.warmed, X', hpost, fun target h => hstep₁ _ fun acts => by rw [doInvoke_state]; exact hsteps.trans h⟩
  · exact Or.inr ⟨q, vm₁, B, X₁.warmed, X', hpost, hstep₁ _ fun acts => by rw [doInvoke_state]; exact hsteps⟩
theorem vx_callS (X : Stand p l e R s m args below meth c T locs cells slots) (hexec : p.tables.exec = Jvm.exec) {own : String} {index : Nat} {y : MethodName} {bytes : ByteArray} {maxL : Nat} {ret : Option FieldType}
    (hown : s.vm.findClass own = some m.cls) (hlink : (Cond.methodLink own index y).before args s = true) (hstat : (Cond.static y).before args s = true) (hinit : (Cond.initialized y.cls).before args s = true)
    (hcode : (Cond.code y bytes maxL ret).before args s = true) (hy : y.cls ≠ "java/lang/invoke/MethodHandle" ∧ y.cls ≠ "java/lang/invoke/VarHandle")
    {W9 : Nat} {Pre : Pt → Array Value → Prop} {Post : Pt → Array Value → Option Value → Pt → Prop} {PostX : Pt → Array Value → Addr → Pt → Prop} (hK : vx_Back l R p e below s args y 3 W9 Pre Post PostX)
    {g : JFrame} (hg : g.method = m) (hsize : g.locals.size = c.maxLocals) {argsL rest : List Value} (hlen : ∀ sig, parseMethodDescriptor y.desc = some sig → argsL.length = sig.parameters.length)
    (hstack : g.stack = argsL.reverse ++ rest) (hW : 2 * g.monitorRoom + (rest.map fun v => v.category).sum ≤ W9) (hdg : decode c.code g.pc = .ok (.invokestatic index, 3))
    (hpre : ∀ vm₁, s.WarmedH vm₁ → Pre ⟨T.setVm vm₁, locs, cells, slots⟩ argsL.toArray) :
    (∃ (v : Option Value) (vm₁ : Vm) (B : Pt), s.WarmedH vm₁ ∧ Stand p l e R s m args below meth c B.U B.locs B.cells B.slots ∧ Post ⟨T.setVm vm₁, locs, cells, slots⟩ argsL.toArray v B ∧
      ∀ target, Steps p.tables e below (B.U.setTop { g with pc := g.pc + 3, stack := v.toList ++ rest }) target → Steps p.tables e below (T.setTop g) target) ∨
    (∃ (q : Addr) (vm₁ : Vm) (B : Pt), s.WarmedH vm₁ ∧ Stand p l e R s m args below meth c B.U B.locs B.cells B.slots ∧ PostX ⟨T.setVm vm₁, locs, cells, slots⟩ argsL.toArray q B ∧
      Steps p.tables e below (T.setTop g) ((B.U.setTop { g with stack := rest }).pushFrame (.throwing q))) := by
  obtain ⟨mk, hnamed⟩ := Cond.code_named hcode
  obtain ⟨methM, cM, hmethM, -, -, -, -, -, -, hsigM⟩ := Cond.code_spec hnamed hcode
  have hstatic : methM.isStatic = true := Cond.static_spec hnamed hmethM hstat
  obtain ⟨kP, hkP, -⟩ := className_of_methodNamed hnamed
  have hinitP : kP.init = .initialized := Cond.initialized_spec (findClass_of_methodNamed hnamed) hkP hinit
  obtain ⟨vm₁, X₁, hstep₁⟩ := X.invokestatic hexec hown hlink hnamed hmethM hstatic hkP hinitP hy (g := g) hg (argsL := argsL) (rest := rest) (hlen _ hsigM) hstack hdg
  rcases hK m meth c ⟨T.setVm vm₁, locs, cells, slots⟩ { g with stack := rest } (.invokestatic index) mk argsL.toArray X₁ hg hsize hdg hW (X₁.named hnamed) (hpre vm₁ X₁.warmed) with ⟨v, B, X', hpost, hsteps⟩ | ⟨q, B, X', hpost, hsteps⟩
  · exact Or.inl ⟨v, vm₁, B, X₁.warmed, X', hpost, fun target h => hstep₁ _ fun acts => by rw [doInvoke_state]; exact hsteps.trans h⟩
  · exact Or.inr ⟨q, vm₁, B, X₁.warmed, X', hpost, hstep₁ _ fun acts => by rw [doInvoke_state]; exact hsteps⟩
end Calls
theorem vx_cls {s : State} {T : State} {vm₁ : Vm} {E : String} {k : ClassId} (hW : s.WarmedH vm₁) (h : (T.setVm vm₁).vm.findClass E = some k) : s.vm.findClass E = some k := by
  have h1 : vm₁.findClass E = some k := h
  rw [hW.alike.findClass] at h1
  exact h1
/-- the method's frame g, with q thrown over it -/
def vx_W (p : Program) (l : Launch) (e : Env) (R : Room) (s : State) (m : MethodId) (args : Array Value) (below : List Frame) (meth : Method) (c : Code) (H : Heap) (locs : List Loc) (cells slots : Nat) (Q : State → Prop) (g : JFrame) (q : Addr) : Prop :=
  ∀ T : State, T.heap = H → Stand p l e R s m args below meth c T locs cells slots → ∃ t, Steps p.tables e below ((T.setTop g).pushFrame (.throwing q)) t ∧ Q t
def vx_Run (p : Program) (l : Launch) (e : Env) (R : Room) (s : State) (m : MethodId) (args : Array Value) (below : List Frame) (meth : Method) (c : Code) (H : Heap) (locs : List Loc) (cells slots mc ms : Nat) (g : JFrame) (rest : List Value) (Qa : State → Outcome → State → Prop) (XC : String → State → State → Prop) (free : Addr → Prop) : Prop :=
  ∀ T : State, T.heap = H → Stand p l e R s m args below meth c T locs cells slots →
    (∃ (v : Option Value) (st₀ t T' : State) (L : List Loc), st₀.heap = H ∧ Stand p l e R s m args below meth c T' (locs ++ L) (cells + mc) (slots + ms) ∧ (∀ q ∈ L, free q.base) ∧ T'.heap = t.heap ∧ T'.vm = t.vm ∧ Qa st₀ (.returned v) t ∧
      Goes p e below T g T' { g with pc := g.pc + 3, stack := v.toList ++ rest }) ∨
    (∃ (q : Addr) (st₀ t T' : State) (L : List Loc) (E : String) (ce : Cell), st₀.heap = H ∧ Stand p l e R s m args below meth c T' (locs ++ L) (cells + mc) (slots + ms) ∧ (∀ z ∈ L, free z.base) ∧ T'.heap = t.heap ∧ T'.vm = t.vm ∧ XC E st₀ t ∧ t.heap[q]? = some ce ∧ ce.vm = .none ∧ s.vm.findClass E = some ce.cls ∧
      Steps p.tables e below (T.setTop g) ((T'.setTop { g with stack := rest }).pushFrame (.throwing q)))
def vx_X {S : Type} (px : S → Prop) (B : String → S → State → Prop) (A : Nat → Prop) : String → State → State → Prop := fun E st t => ∃ u : S, px u ∧ B E u t ∧ va_F A st t
section Runs
variable {p : Program} {l : Launch} {e : Env} {R : Room} {s : State} {m : MethodId} {args : Array Value} {below : List Frame} {meth : Method} {c : Code} {H : Heap} {locs : List Loc} {cells slots : Nat}
variable {y : MethodName} {bytes cc : ByteArray} {maxL nL mc ms n index : Nat} {ret : Option FieldType} {ws : List Cond} {rm : Room} {Pc : Array Value → State → Prop} {Qc : Array Value → State → Outcome → State → Prop} {XC : String → State → State → Prop} {free : Addr → Prop} {Ts : List Cond} {own C : String} {b : Addr} {As rest : List Value} {g : JFrame}
theorem vx_callBack (cb : CallB R s args own index y bytes maxL ret ws rm mc ms n) (hM : vx_Met l y ws rm Pc Qc XC mc ms free) (hbl : FrameBlind Pc) : vx_Back l R p e below s args y 3 8 (PreOf R mc ms Pc) (PostOf Qc mc ms free) (vx_Post XC mc ms free) := by
  obtain ⟨hrc, hrs, hfr, hlo, hws, hcw, -, hini, -⟩ := cb
  exact vx_back (bytes := bytes) (maxL := maxL) (ret := ret) hM hbl hrc hrs hfr hlo hws hcw (fun a' U hW => word_at hW (Or.inl (by first | rfl | simp [Cond.onTables, Cond.keeps, Cond.steady])) hini)
theorem vx_runV (S : CallFix p m c cc nL s args Ts own) (hM : vx_Met l y ws rm Pc Qc XC mc ms free) (cw : CallW R s args own C index y bytes maxL ret ws rm mc ms n) (hp : PreV s H C b Pc As)
    (hg : g.method = m) (hn : As.length = n) (hsize : g.locals.size = nL) (hstack : g.stack = As.reverse ++ .ref b :: rest) (hW : 2 * g.monitorRoom + (rest.map fun v => v.category).sum ≤ 8) (hdg : decode cc g.pc = .ok (.invokevirtual index, 3)) (hf : cells + mc ≤ R.cells ∧ slots + ms ≤ R.slots) :
    vx_Run p l e R s m args below meth c H locs cells slots mc ms g rest (Qc (Value.ref b :: As).toArray) XC free := by
  have hK : vx_Back l R p e below s args y 3 8 (PreOf R mc ms Pc) (PostOf Qc mc ms free) (vx_Post XC mc ms free) := vx_callBack cw.1 hM hp.1
  obtain ⟨⟨-, -, -, -, -, -, hcode, -, hy, hlen, hl⟩, hin, hse⟩ := cw
  obtain ⟨hx, hb, hml, ho, -⟩ := S
  obtain ⟨-, ⟨cellB, hcB, hoB, hclB⟩, hPc⟩ := hp
  intro T hT X
  rcases vx_callV X hx (C := C) (bytes := bytes) (maxL := maxL) (ret := ret) ho hl hin hse hcode hy hK (by rw [hT]; exact hcB) hoB hclB hg (hsize.trans hml.symm) (argsL := As) (rest := rest) (fun sig h => hn.trans (hlen sig h)) hstack hW (by rw [hb]; exact hdg)
    (fun vm₁ hW₁ => ⟨hf.1, hf.2, hPc (T.setVm vm₁) hT hW₁⟩) with ⟨v, vm₁, ⟨U', l2, c2, s2⟩, hW₁, X', ⟨g', mk, t, L, e1, e2, hq, h1, hL, h2, h3⟩, st⟩ | ⟨q, vm₁, ⟨U', l2, c2, s2⟩, hW₁, X', ⟨g', mk, t, L, E, ce, e1, e2, hq, hce, hcv, hcl, h1, hL, h2, h3⟩, st⟩
  · dsimp only [Pt.U, Pt.locs, Pt.cells, Pt.slots] at X' e1 e2 h1 h2 h3 st
    subst h1; subst h2; subst h3
    exact Or.inl ⟨v, (T.setVm vm₁).calling g' mk (Value.ref b :: As).toArray, t, U', L, hT, X', hL, e1, e2, hq, st⟩
  · dsimp only [Pt.U, Pt.locs, Pt.cells, Pt.slots] at X' e1 e2 h1 h2 h3 st hcl
    subst h1; subst h2; subst h3
    exact Or.inr ⟨q, (T.setVm vm₁).calling g' mk (Value.ref b :: As).toArray, t, U', L, E, ce, hT, X', hL, e1, e2, hq, hce, hcv, vx_cls hW₁ hcl, st⟩
theorem vx_runS (S : CallFix p m c cc nL s args Ts own) (hM : vx_Met l y ws rm Pc Qc XC mc ms free) (cw : CallB R s args own index y bytes maxL ret ws rm mc ms n ∧ (Cond.static y).before args s = true) (hp : PreS s H Pc As)
    (hg : g.method = m) (hn : As.length = n) (hsize : g.locals.size = nL) (hstack : g.stack = As.reverse ++ rest) (hW : 2 * g.monitorRoom + (rest.map fun v => v.category).sum ≤ 8) (hdg : decode cc g.pc = .ok (.invokestatic index, 3)) (hf : cells + mc ≤ R.cells ∧ slots + ms ≤ R.slots) :
    vx_Run p l e R s m args below meth c H locs cells slots mc ms g rest (Qc As.toArray) XC free := by
  have hK : vx_Back l R p e below s args y 3 8 (PreOf R mc ms Pc) (PostOf Qc mc ms free) (vx_Post XC mc ms free) := vx_callBack cw.1 hM hp.1
  obtain ⟨⟨-, -, -, -, -, -, hcode, hini, hy, hlen, hl⟩, hstt⟩ := cw
  obtain ⟨hx, hb, hml, ho, -⟩ := S
  intro T hT X
  rcases vx_callS X hx (bytes := bytes) (maxL := maxL) (ret := ret) ho hl hstt hini hcode hy hK hg (hsize.trans hml.symm) (argsL := As) (rest := rest) (fun sig h => hn.trans (hlen sig h)) hstack hW (by rw [hb]; exact hdg)
    (fun vm₁ hW₁ => ⟨hf.1, hf.2, hp.2 (T.setVm vm₁) hT hW₁⟩) with ⟨v, vm₁, ⟨U', l2, c2, s2⟩, hW₁, X', ⟨g', mk, t, L, e1, e2, hq, h1, hL, h2, h3⟩, st⟩ | ⟨q, vm₁, ⟨U', l2, c2, s2⟩, hW₁, X', ⟨g', mk, t, L, E, ce, e1, e2, hq, hce, hcv, hcl, h1, hL, h2, h3⟩, st⟩
  · dsimp only [Pt.U, Pt.locs, Pt.cells, Pt.slots] at X' e1 e2 h1 h2 h3 st
    subst h1; subst h2; subst h3
    exact Or.inl ⟨v, (T.setVm vm₁).calling g' mk As.toArray, t, U', L, hT, X', hL, e1, e2, hq, st⟩
  · dsimp only [Pt.U, Pt.locs, Pt.cells, Pt.slots] at X' e1 e2 h1 h2 h3 st hcl
    subst h1; subst h2; subst h3
    exact Or.inr ⟨q, (T.setVm vm₁).calling g' mk As.toArray, t, U', L, E, ce, hT, X', hL, e1, e2, hq, hce, hcv, vx_cls hW₁ hcl, st⟩
end Runs
section Rows
variable {p : Program} {l : Launch} {e : Env} {R : Room} {s : State} {m : MethodId} {args : Array Value} {below : List Frame} {meth : Method} {c : Code} {H : Heap} {locs : List Loc} {cells slots : Nat} {Q : State → Prop}
variable {mc ms : Nat} {free : Addr → Prop} {A0 A1 : Nat → Prop} {H0 : Heap} {a : Array Value} {pc : Nat} {ls : Array Slot} {st0 rest : List Value}
theorem vx_keep {st₀ t T' : State} {L : List Loc} (h0 : st₀.heap = H) (e1 : T'.heap = t.heap) (hS : va_S A0 H0 H locs) (hA : ∀ q, q < H.size → A1 q → A0 q) (hf : ∀ q, free q → A0 q) (hL : ∀ q ∈ L, free q.base) (hF : va_F A1 st₀ t) :
    H.size ≤ T'.heap.size ∧ (∀ q : Nat, q < H.size → ¬ A1 q → T'.heap[q]? = H[q]?) ∧ va_S A0 H0 T'.heap (locs ++ L) := by
  obtain ⟨hz, hk⟩ := hF
  rw [h0] at hz hk
  exact ⟨by rw [e1]; exact hz, fun q h1 h2 => by rw [e1]; exact hk q h1 h2,
    ⟨Nat.le_trans hS.1 (by rw [e1]; exact hz), fun q h1 h2 => by rw [e1, hk q (Nat.lt_of_lt_of_le h1 hS.1) (fun z => h2 (hA q (Nat.lt_of_lt_of_le h1 hS.1) z))]; exact hS.2.1 q h1 h2, fun q hq => by
      rcases List.mem_append.mp hq with h | h
      · exact hS.2.2 q h
      · exact hf _ (hL q h)⟩⟩
theorem vx_calli {S SX : Type} {post : Int32 → S → Prop} {px : SX → Prop} {B : S → State → Prop} {BX : String → SX → State → Prop} {AX : Nat → Prop} (hr : vx_Run p l e R s m args below meth c H locs cells slots mc ms (F0 m pc ls st0) rest (va_Qi post B A1 a) (vx_X px BX AX) free) (hS : va_S A0 H0 H locs) (hA : ∀ q, q < H.size → A1 q → A0 q) (hf : ∀ q, free q → A0 q) (hAX : ∀ q, q < H.size → AX q → A0 q)
    (kx : ∀ (E : String) (ce : Cell) (q9 : Addr) (u : SX) (t : State) (H1 : Heap) (locs1 : List Loc), t.heap = H1 → s.vm.Alike t.vm → px u → BX E u t → H.size ≤ H1.size → (∀ q : Nat, q < H.size → ¬ AX q → H1[q]? = H[q]?) → va_S A0 H0 H1 locs1 → H1[q9]? = some ce → ce.vm = .none → s.vm.findClass E = some ce.cls → vx_W p l e R s m args below meth c H1 locs1 (cells + mc) (slots + ms) Q (F0 m pc ls rest) q9)
    (kk : ∀ (r : Int32) (u : S) (t : State) (H1 : Heap) (locs1 : List Loc), t.heap = H1 → s.vm.Alike t.vm → post r u → B u t → H.size ≤ H1.size → (∀ q : Nat, q < H.size → ¬ A1 q → H1[q]? = H[q]?) → va_S A0 H0 H1 locs1 → W p l e R s m args below meth c H1 locs1 (cells + mc) (slots + ms) Q (F0 m (pc + 3) ls (.int r :: rest))) : W p l e R s m args below meth c H locs cells slots Q (F0 m pc ls st0) := by
  intro T hT X
  rcases hr T hT X with ⟨v, st₀, t, T', L, h0, X', hL, e1, e2, ⟨⟨r, u, hv, hp, hb⟩, hF⟩, st⟩ | ⟨q, st₀, t, T', L, E, ce, h0, X', hL, e1, e2, ⟨u, hp, hb, hF⟩, hce, hcv, hcl, st⟩
  · cases hv
    obtain ⟨k1, k2, k3⟩ := vx_keep h0 e1 hS hA hf hL hF
    obtain ⟨t2, a1, b1⟩ := kk r u t T'.heap (locs ++ L) e1.symm (by rw [← e2]; exact X'.warmed.alike) hp hb k1 k2 k3 T' rfl X'
    exact ⟨t2, st t2 a1, b1⟩
  · obtain ⟨k1, k2, k3⟩ := vx_keep h0 e1 hS hAX hf hL hF
    obtain ⟨t2, a1, b1⟩ := kx E ce q u t T'.heap (locs ++ L) e1.symm (by rw [← e2]; exact X'.warmed.alike) hp hb k1 k2 k3 (by rw [e1]; exact hce) hcv hcl T' rfl X'
    exact ⟨t2, st.trans a1, b1⟩
theorem vx_calll {S SX : Type} {post : Int64 → S → Prop} {px : SX → Prop} {B : S → State → Prop} {BX : String → SX → State → Prop} {AX : Nat → Prop} (hr : vx_Run p l e R s m args below meth c H locs cells slots mc ms (F0 m pc ls st0) rest (va_Ql post B A1 a) (vx_X px BX AX) free) (hS : va_S A0 H0 H locs) (hA : ∀ q, q < H.size → A1 q → A0 q) (hf : ∀ q, free q → A0 q) (hAX : ∀ q, q < H.size → AX q → A0 q)
    (kx : ∀ (E : String) (ce : Cell) (q9 : Addr) (u : SX) (t : State) (H1 : Heap) (locs1 : List Loc), t.heap = H1 → s.vm.Alike t.vm → px u → BX E u t → H.size ≤ H1.size → (∀ q : Nat, q < H.size → ¬ AX q → H1[q]? = H[q]?) → va_S A0 H0 H1 locs1 → H1[q9]? = some ce → ce.vm = .none → s.vm.findClass E = some ce.cls → vx_W p l e R s m args below meth c H1 locs1 (cells + mc) (slots + ms) Q (F0 m pc ls rest) q9)
    (kk : ∀ (r : Int64) (u : S) (t : State) (H1 : Heap) (locs1 : List Loc), t.heap = H1 → s.vm.Alike t.vm → post r u → B u t → H.size ≤ H1.size → (∀ q : Nat, q < H.size → ¬ A1 q → H1[q]? = H[q]?) → va_S A0 H0 H1 locs1 → W p l e R s m args below meth c H1 locs1 (cells + mc) (slots + ms) Q (F0 m (pc + 3) ls (.long r :: rest))) : W p l e R s m args below meth c H locs cells slots Q (F0 m pc ls st0) := by
  intro T hT X
  rcases hr T hT X with ⟨v, st₀, t, T', L, h0, X', hL, e1, e2, ⟨⟨r, u, hv, hp, hb⟩, hF⟩, st⟩ | ⟨q, st₀, t, T', L, E, ce, h0, X', hL, e1, e2, ⟨u, hp, hb, hF⟩, hce, hcv, hcl, st⟩
  · cases hv
    obtain ⟨k1, k2, k3⟩ := vx_keep h0 e1 hS hA hf hL hF
    obtain ⟨t2, a1, b1⟩ := kk r u t T'.heap (locs ++ L) e1.symm (by rw [← e2]; exact X'.warmed.alike) hp hb k1 k2 k3 T' rfl X'
    exact ⟨t2, st t2 a1, b1⟩
  · obtain ⟨k1, k2, k3⟩ := vx_keep h0 e1 hS hAX hf hL hF
    obtain ⟨t2, a1, b1⟩ := kx E ce q u t T'.heap (locs ++ L) e1.symm (by rw [← e2]; exact X'.warmed.alike) hp hb k1 k2 k3 (by rw [e1]; exact hce) hcv hcl T' rfl X'
    exact ⟨t2, st.trans a1, b1⟩
theorem vx_callf {S SX : Type} {post : UInt32 → S → Prop} {px : SX → Prop} {B : S → State → Prop} {BX : String → SX → State → Prop} {AX : Nat → Prop} (hr : vx_Run p l e R s m args below meth c H locs cells slots mc ms (F0 m pc ls st0) rest (va_Qf post B A1 a) (vx_X px BX AX) free) (hS : va_S A0 H0 H locs) (hA : ∀ q, q < H.size → A1 q → A0 q) (hf : ∀ q, free q → A0 q) (hAX : ∀ q, q < H.size → AX q → A0 q)
    (kx : ∀ (E : String) (ce : Cell) (q9 : Addr) (u : SX) (t : State) (H1 : Heap) (locs1 : List Loc), t.heap = H1 → s.vm.Alike t.vm → px u → BX E u t → H.size ≤ H1.size → (∀ q : Nat, q < H.size → ¬ AX q → H1[q]? = H[q]?) → va_S A0 H0 H1 locs1 → H1[q9]? = some ce → ce.vm = .none → s.vm.findClass E = some ce.cls → vx_W p l e R s m args below meth c H1 locs1 (cells + mc) (slots + ms) Q (F0 m pc ls rest) q9)
    (kk : ∀ (r : UInt32) (u : S) (t : State) (H1 : Heap) (locs1 : List Loc), t.heap = H1 → s.vm.Alike t.vm → post r u → B u t → H.size ≤ H1.size → (∀ q : Nat, q < H.size → ¬ A1 q → H1[q]? = H[q]?) → va_S A0 H0 H1 locs1 → W p l e R s m args below meth c H1 locs1 (cells + mc) (slots + ms) Q (F0 m (pc + 3) ls (.float r :: rest))) : W p l e R s m args below meth c H locs cells slots Q (F0 m pc ls st0) := by
  intro T hT X
  rcases hr T hT X with ⟨v, st₀, t, T', L, h0, X', hL, e1, e2, ⟨⟨r, u, hv, hp, hb⟩, hF⟩, st⟩ | ⟨q, st₀, t, T', L, E, ce, h0, X', hL, e1, e2, ⟨u, hp, hb, hF⟩, hce, hcv, hcl, st⟩
  · cases hv
    obtain ⟨k1, k2, k3⟩ := vx_keep h0 e1 hS hA hf hL hF
    obtain ⟨t2, a1, b1⟩ := kk r u t T'.heap (locs ++ L) e1.symm (by rw [← e2]; exact X'.warmed.alike) hp hb k1 k2 k3 T' rfl X'
    exact ⟨t2, st t2 a1, b1⟩
  · obtain ⟨k1, k2, k3⟩ := vx_keep h0 e1 hS hAX hf hL hF
    obtain ⟨t2, a1, b1⟩ := kx E ce q u t T'.heap (locs ++ L) e1.symm (by rw [← e2]; exact X'.warmed.alike) hp hb k1 k2 k3 (by rw [e1]; exact hce) hcv hcl T' rfl X'
    exact ⟨t2, st.trans a1, b1⟩
theorem vx_calld {S SX : Type} {post : UInt64 → S → Prop} {px : SX → Prop} {B : S → State → Prop} {BX : String → SX → State → Prop} {AX : Nat → Prop} (hr : vx_Run p l e R s m args below meth c H locs cells slots mc ms (F0 m pc ls st0) rest (va_Qd post B A1 a) (vx_X px BX AX) free) (hS : va_S A0 H0 H locs) (hA : ∀ q, q < H.size → A1 q → A0 q) (hf : ∀ q, free q → A0 q) (hAX : ∀ q, q < H.size → AX q → A0 q)
    (kx : ∀ (E : String) (ce : Cell) (q9 : Addr) (u : SX) (t : State) (H1 : Heap) (locs1 : List Loc), t.heap = H1 → s.vm.Alike t.vm → px u → BX E u t → H.size ≤ H1.size → (∀ q : Nat, q < H.size → ¬ AX q → H1[q]? = H[q]?) → va_S A0 H0 H1 locs1 → H1[q9]? = some ce → ce.vm = .none → s.vm.findClass E = some ce.cls → vx_W p l e R s m args below meth c H1 locs1 (cells + mc) (slots + ms) Q (F0 m pc ls rest) q9)
    (kk : ∀ (r : UInt64) (u : S) (t : State) (H1 : Heap) (locs1 : List Loc), t.heap = H1 → s.vm.Alike t.vm → post r u → B u t → H.size ≤ H1.size → (∀ q : Nat, q < H.size → ¬ A1 q → H1[q]? = H[q]?) → va_S A0 H0 H1 locs1 → W p l e R s m args below meth c H1 locs1 (cells + mc) (slots + ms) Q (F0 m (pc + 3) ls (.double r :: rest))) : W p l e R s m args below meth c H locs cells slots Q (F0 m pc ls st0) := by
  intro T hT X
  rcases hr T hT X with ⟨v, st₀, t, T', L, h0, X', hL, e1, e2, ⟨⟨r, u, hv, hp, hb⟩, hF⟩, st⟩ | ⟨q, st₀, t, T', L, E, ce, h0, X', hL, e1, e2, ⟨u, hp, hb, hF⟩, hce, hcv, hcl, st⟩
  · cases hv
    obtain ⟨k1, k2, k3⟩ := vx_keep h0 e1 hS hA hf hL hF
    obtain ⟨t2, a1, b1⟩ := kk r u t T'.heap (locs ++ L) e1.symm (by rw [← e2]; exact X'.warmed.alike) hp hb k1 k2 k3 T' rfl X'
    exact ⟨t2, st t2 a1, b1⟩
  · obtain ⟨k1, k2, k3⟩ := vx_keep h0 e1 hS hAX hf hL hF
    obtain ⟨t2, a1, b1⟩ := kx E ce q u t T'.heap (locs ++ L) e1.symm (by rw [← e2]; exact X'.warmed.alike) hp hb k1 k2 k3 (by rw [e1]; exact hce) hcv hcl T' rfl X'
    exact ⟨t2, st.trans a1, b1⟩
theorem vx_callv {S SX : Type} {post : S → Prop} {px : SX → Prop} {B : S → State → Prop} {BX : String → SX → State → Prop} {AX : Nat → Prop} (hr : vx_Run p l e R s m args below meth c H locs cells slots mc ms (F0 m pc ls st0) rest (va_Qv post B A1 a) (vx_X px BX AX) free) (hS : va_S A0 H0 H locs) (hA : ∀ q, q < H.size → A1 q → A0 q) (hf : ∀ q, free q → A0 q) (hAX : ∀ q, q < H.size → AX q → A0 q)
    (kx : ∀ (E : String) (ce : Cell) (q9 : Addr) (u : SX) (t : State) (H1 : Heap) (locs1 : List Loc), t.heap = H1 → s.vm.Alike t.vm → px u → BX E u t → H.size ≤ H1.size → (∀ q : Nat, q < H.size → ¬ AX q → H1[q]? = H[q]?) → va_S A0 H0 H1 locs1 → H1[q9]? = some ce → ce.vm = .none → s.vm.findClass E = some ce.cls → vx_W p l e R s m args below meth c H1 locs1 (cells + mc) (slots + ms) Q (F0 m pc ls rest) q9)
    (kk : ∀ (u : S) (t : State) (H1 : Heap) (locs1 : List Loc), t.heap = H1 → s.vm.Alike t.vm → post u → B u t → H.size ≤ H1.size → (∀ q : Nat, q < H.size → ¬ A1 q → H1[q]? = H[q]?) → va_S A0 H0 H1 locs1 → W p l e R s m args below meth c H1 locs1 (cells + mc) (slots + ms) Q (F0 m (pc + 3) ls (rest))) : W p l e R s m args below meth c H locs cells slots Q (F0 m pc ls st0) := by
  intro T hT X
  rcases hr T hT X with ⟨v, st₀, t, T', L, h0, X', hL, e1, e2, ⟨⟨u, hv, hp, hb⟩, hF⟩, st⟩ | ⟨q, st₀, t, T', L, E, ce, h0, X', hL, e1, e2, ⟨u, hp, hb, hF⟩, hce, hcv, hcl, st⟩
  · cases hv
    obtain ⟨k1, k2, k3⟩ := vx_keep h0 e1 hS hA hf hL hF
    obtain ⟨t2, a1, b1⟩ := kk u t T'.heap (locs ++ L) e1.symm (by rw [← e2]; exact X'.warmed.alike) hp hb k1 k2 k3 T' rfl X'
    exact ⟨t2, st t2 a1, b1⟩
  · obtain ⟨k1, k2, k3⟩ := vx_keep h0 e1 hS hAX hf hL hF
    obtain ⟨t2, a1, b1⟩ := kx E ce q u t T'.heap (locs ++ L) e1.symm (by rw [← e2]; exact X'.warmed.alike) hp hb k1 k2 k3 (by rw [e1]; exact hce) hcv hcl T' rfl X'
    exact ⟨t2, st.trans a1, b1⟩
/-- caught by the row x of this method's table; the rows ahead don't take it -/
theorem vx_catch {own name : String} {E : String} {ce : Cell} {q : Addr} (hown : s.vm.findClass own = some m.cls) (pre : List ExceptionTableEntry) (x : ExceptionTableEntry) (suf : List ExceptionTableEntry) (hsplit : c.exceptionTable.toList = pre ++ x :: suf)
    (hpass : ∀ z ∈ pre, covers z pc = false ∨ (z.catchType ≠ 0 ∧ ∃ nm : String, (Cond.classLink own z.catchType nm).before args s = true ∧ va_Nc E nm s)) (hx : covers x pc = true) (h0 : x.catchType ≠ 0)
    (hlink : (Cond.classLink own x.catchType name).before args s = true) (hcast : (Cond.castable E name).before args s = true) (hcell : H[q]? = some ce) (hv : ce.vm = .none) (hcl : s.vm.findClass E = some ce.cls)
    (kk : W p l e R s m args below meth c H locs cells slots Q (F0 m x.handlerPc ls [.ref q])) : vx_W p l e R s m args below meth c H locs cells slots Q (F0 m pc ls rest) q := by
  intro T hT X
  have hpl : e.platform.magicAccessors = ({} : Platform).magicAccessors := by rw [X.admits.platform]
  obtain ⟨c3, c4, hc3, hc4, hasg⟩ := Cond.castable_spec hcast
  cases Option.some.inj (hc3.symm.trans hcl)
  obtain ⟨c5, hc5, hcl5⟩ := Cond.classLink_spec hown hlink e.platform hpl
  cases Option.some.inj (hc4.symm.trans hc5)
  obtain ⟨vm', X', st⟩ := X.thenCaughtThrough q (g := F0 m pc ls rest) rfl (Steps.refl _) (by rw [hT]; exact hcell) (by rw [hv]; rfl) (by obtain ⟨k9, h9, -⟩ := Vm.findClass_spec hcl; exact ⟨k9, h9⟩) pre x suf hsplit
    (fun z hz => by
      rcases hpass z hz with h | ⟨hz0, nm, hl1, hn1⟩
      · exact Or.inl h
      · obtain ⟨c6, hc6, hcl6⟩ := Cond.classLink_spec hown hl1 e.platform hpl
        obtain ⟨a8, b8, h1, h2, h3⟩ := hn1
        cases Option.some.inj (h1.symm.trans hcl)
        cases Option.some.inj (h2.symm.trans hc6)
        exact Or.inr ⟨hz0, _, hcl6, h3⟩) hx (Or.inr ⟨h0, c4, hcl5, hasg⟩)
  obtain ⟨t, a1, b1⟩ := kk (T.setVm vm') hT X'
  exact ⟨t, st.trans a1, b1⟩
end Rows
section Ends
variable {p : Program} {l : Launch} {e : Env} {R : Room} {s : State} {m : MethodId} {args : Array Value} {below : List Frame} {meth : Method} {c : Code} {H : Heap} {locs : List Loc} {cells slots : Nat} {Q : State → Prop}
variable {mc ms : Nat} {free : Addr → Prop} {A0 A1 : Nat → Prop} {H0 : Heap} {a : Array Value} {ls : Array Slot} {st0 rest : List Value}
variable {Qc : Array Value → State → Outcome → State → Prop} {XC : String → State → State → Prop}
/-- what a body that may throw owes at its end -/
def vx_MQ (below : List Frame) (Qc : Array Value → State → Outcome → State → Prop) (XC : String → State → State → Prop) (a : Array Value) (s : State) (mc ms : Nat) (free : Addr → Prop) : State → Prop := fun t =>
  ∃ o, t.status = .running ∧ Ended t below o ∧ vx_Q Qc XC mc ms free a s o t
theorem vx_ret {g : JFrame} {mc ms : Nat} (k : W p l e R s m args below meth c H locs cells slots (MQ below Qc args s mc ms free) g) : W p l e R s m args below meth c H locs cells slots (vx_MQ below Qc XC args s mc ms free) g := by
  intro T hT X
  obtain ⟨t, a1, o, b1, b2, b3, b4⟩ := k T hT X
  exact ⟨t, a1, o, b1, b2, Or.inl ⟨b3, b4⟩⟩
/-- not caught here: it goes on to the caller -/
theorem vx_widen {g : JFrame} {q : Addr} {k n : Nat} (h1 : cells ≤ k) (h2 : slots ≤ n) (kk : vx_W p l e R s m args below meth c H locs k n Q g q) : vx_W p l e R s m args below meth c H locs cells slots Q g q := fun T hT X => kk T hT (stand_widen X h1 h2)
theorem vx_out {pc : Nat} {E : String} {ce : Cell} {q : Addr} {mc ms : Nat} (hout : ∀ x ∈ c.exceptionTable.toList, covers x pc = false) (hlocks : meth.locks = false) (hcell : H[q]? = some ce) (hv : ce.vm = .none) (hcl : s.vm.findClass E = some ce.cls)
    (hx : ∀ t : State, t.heap = H → s.vm.Alike t.vm → XC E s t) (hf : ∀ z ∈ locs, free z.base) (hc : cells ≤ mc) (hs : slots ≤ ms) :
    vx_W p l e R s m args below meth c H locs cells slots (vx_MQ below Qc XC args s mc ms free) (F0 m pc ls rest) q := by
  intro T hT X
  obtain ⟨st1, hrun, hend, hW, hsm⟩ := X.leaveThrown q (g := F0 m pc ls rest) rfl rfl rfl hout hlocks
  have hcell9 : (T.setFrames (.throwing q :: below)).heap[q]? = some ce := by
    show T.heap[q]? = some ce
    rw [hT]; exact hcell
  exact ⟨_, st1, .threw q, hrun, hend, Or.inr ⟨q, rfl, E, ce, locs, hx _ hT hW.alike, hcell9, hv, hcl, hW, hsm.mono hc hs, hf⟩⟩
theorem vx_frame {U : State} {k n : Nat} (h : s.sameButNew ({ U with vm := s.vm } : State) locs k n) : s.heap.size ≤ U.heap.size ∧ ∀ q : Nat, q < s.heap.size → (∀ z ∈ locs, z.base ≠ q) → U.heap[q]? = s.heap[q]? := by
  obtain ⟨-, h2, -, -, -, h6⟩ := h
  refine ⟨h2, fun q hq hz => ?_⟩
  obtain ⟨c9, e1, e2, e3, e4⟩ := h6 q _ (Array.getElem?_eq_getElem hq)
  have hs : c9.slots = (s.heap[q]).slots := Array.ext_getElem? fun i => e4 i fun hm => hz _ hm rfl
  have h9 : c9 = s.heap[q] := by
    rw [hs] at e2
    exact e2
  have e5 : U.heap[q]? = some c9 := e1
  rw [e5, h9, Array.getElem?_eq_getElem hq]
/-- the words of a throw but the four that speak of the heap -/
def vx_no (w : Cond) : Bool := decide (w ≠ .isRef (.static Bundle.tN "UNASSIGNED_STACK" Bundle.steD)) && decide (w ≠ .isRef (.static Bundle.tN "SUPPRESSED_SENTINEL" Bundle.listD)) && decide (w ≠ .laysStatic Bundle.tN "UNASSIGNED_STACK" Bundle.steD) && decide (w ≠ .laysStatic Bundle.tN "SUPPRESSED_SENTINEL" Bundle.listD)
def vx_at0 (own : String) (ic : Nat) (X : String) (names : List String) : List Cond := (Bundle.ownAtoms0 own ic X names).filter vx_no
def vx_atS (own : String) (ic : Nat) (X : String) (names : List String) : List Cond := (Bundle.ownAtoms own ic X names).filter vx_no
/-- a word that the tables alone decide, or a good one -/
def vx_ot (w : Cond) : Bool := w.onTables || goodWord w
theorem vx_ot_at {args a' : Array Value} {s U : State} {w : Cond} (hW : s.WarmedH U.vm) (hvm : s.vm = U.vm) (hg : vx_ot w = true) (h : w.before args s = true) : w.before a' U = true := by
  simp only [vx_ot, Bool.or_eq_true] at hg
  rcases hg with hg | hg
  · exact va_tabs hg hvm h
  · exact word_at hW (good_of_word hg) h
/-- a list's words: the good ones out of the method's own list, the others by premises of their own -/
theorem vx_hat {args : Array Value} {s : State} {L B : List Cond} (h1 : ∀ w ∈ L.filter goodWord, w.before args s = true) (h2 : ∀ w ∈ L.filter (fun w => !goodWord w), w ∈ B) (h3 : ∀ w ∈ B, w.before args s = true) : ∀ w ∈ L, w.before args s = true := by
  intro w hw
  by_cases g : goodWord w = true
  · exact h1 w (List.mem_filter.mpr ⟨hw, g⟩)
  · refine h3 w (h2 w (List.mem_filter.mpr ⟨hw, ?_⟩))
    show (!goodWord w) = true
    cases hgw : goodWord w
    · rfl
    · exact absurd hgw g
theorem vx_c {args : Array Value} {s : State} {w : Cond} {B : List Cond} (h : w.before args s = true) (t : ∀ w ∈ B, w.before args s = true) : ∀ w' ∈ w :: B, w'.before args s = true := fun w' h' => (List.mem_cons.mp h').elim (fun e => by rw [e]; exact h) (t w')
theorem vx_n {args : Array Value} {s : State} : ∀ w ∈ ([] : List Cond), w.before args s = true := fun _ h => nomatch h
theorem vx_own {args : Array Value} {s : State} {L : List Cond} (h1 : ∀ w ∈ L.filter vx_no, w.before args s = true)
    (hU : (Cond.isRef (.static Bundle.tN "UNASSIGNED_STACK" Bundle.steD)).before args s = true) (hN : (Cond.isRef (.static Bundle.tN "SUPPRESSED_SENTINEL" Bundle.listD)).before args s = true)
    (lU : (Cond.laysStatic Bundle.tN "UNASSIGNED_STACK" Bundle.steD).before args s = true) (lN : (Cond.laysStatic Bundle.tN "SUPPRESSED_SENTINEL" Bundle.listD).before args s = true) : ∀ w ∈ L, w.before args s = true := by
  intro w hw
  by_cases e1 : w = .isRef (.static Bundle.tN "UNASSIGNED_STACK" Bundle.steD)
  · rw [e1]; exact hU
  · by_cases e2 : w = .isRef (.static Bundle.tN "SUPPRESSED_SENTINEL" Bundle.listD)
    · rw [e2]; exact hN
    · by_cases e3 : w = .laysStatic Bundle.tN "UNASSIGNED_STACK" Bundle.steD
      · rw [e3]; exact lU
      · by_cases e4 : w = .laysStatic Bundle.tN "SUPPRESSED_SENTINEL" Bundle.listD
        · rw [e4]; exact lN
        · exact h1 w (List.mem_filter.mpr ⟨hw, by unfold vx_no; rw [decide_eq_true e1, decide_eq_true e2, decide_eq_true e3, decide_eq_true e4]; rfl⟩)
/-- where a static field lies, its class's statics cell in H -/
def vx_L (C n d : String) (A : Nat → Prop) (U : State) (H : Heap) : Prop := ∃ (c : ClassId) (k : Class) (i : Nat) (f : Field) (a : Nat) (cell : Cell), U.vm.findClass C = some c ∧ U.fieldFound? C n d = some (c, k, i, f) ∧ f.isStatic = true ∧ k.statics = some a ∧ H[a]? = some cell ∧ cell.vm.isStatics = true ∧ cell.cls = c ∧ f.slot < cell.slots.size ∧ k.staticTypes[f.slot]? = some f.type ∧ ¬ A a
theorem vx_L.moved {C n d : String} {A : Nat → Prop} {u U : State} {H : Heap} (hvm : u.vm.Alike U.vm) (h : vx_L C n d A u H) : vx_L C n d A U H := by
  obtain ⟨c, k, i, f, a, cell, h1, h2, h3, h4, h5, h6, h7, h8, h9, h10⟩ := h
  obtain ⟨k', hi', he⟩ := State.fieldFound?_setVm hvm h2
  exact ⟨c, k', i, f, a, cell, by rw [hvm.findClass]; exact h1, hi', h3, by rw [he]; exact h4, h5, h6, h7, h8, by rw [he]; exact h9, h10⟩
theorem vx_L.kept {C n d : String} {A : Nat → Prop} {U : State} {H H1 : Heap} (h : vx_L C n d A U H) (hq : ∀ a : Nat, a < H.size → ¬ A a → H1[a]? = H[a]?) : vx_L C n d A U H1 := by
  obtain ⟨c, k, i, f, a, cell, h1, h2, h3, h4, h5, h6, h7, h8, h9, h10⟩ := h
  exact ⟨c, k, i, f, a, cell, h1, h2, h3, h4, by rw [hq a (Array.getElem?_eq_some_iff.mp h5).1 h10]; exact h5, h6, h7, h8, h9, h10⟩
theorem vx_L.narrow {C n d : String} {A B : Nat → Prop} {U : State} {H : Heap} (h : vx_L C n d A U H) (hAB : ∀ q, B q → A q) : vx_L C n d B U H := by
  obtain ⟨c, k, i, f, a, cell, h1, h2, h3, h4, h5, h6, h7, h8, h9, h10⟩ := h
  exact ⟨c, k, i, f, a, cell, h1, h2, h3, h4, h5, h6, h7, h8, h9, fun z => h10 (hAB _ z)⟩
theorem vx_L.word {C n d : String} {A : Nat → Prop} {s : State} {args : Array Value} (h : vx_L C n d A s s.heap) : (Cond.laysStatic C n d).before args s = true := by
  obtain ⟨c, k, i, f, a, cell, h1, h2, h3, h4, h5, h6, h7, h8, h9, -⟩ := h
  show (Cond.laysStatic C n d).holds args s none s [] = true
  exact Cond.laysStatic_of h1 h2 h3 h4 h5 h6 h7 h8 h9
/-- .. and what it holds: null or some reference -/
def vx_Zq (C n d : String) (A : Nat → Prop) (U : State) (H : Heap) : Prop := va_Zq C n d A U H ∧ vx_L C n d A U H
theorem vx_Zq.moved {C n d : String} {A : Nat → Prop} {u U : State} {H : Heap} (hvm : u.vm.Alike U.vm) (h : vx_Zq C n d A u H) : vx_Zq C n d A U H := ⟨va_Zq.moved hvm h.1, vx_L.moved hvm h.2⟩
theorem vx_Zq.kept {C n d : String} {A : Nat → Prop} {U : State} {H H1 : Heap} (h : vx_Zq C n d A U H) (hq : ∀ a : Nat, a < H.size → ¬ A a → H1[a]? = H[a]?) : vx_Zq C n d A U H1 := ⟨va_Zq.kept h.1 hq, vx_L.kept h.2 hq⟩
theorem vx_Zq.narrow {C n d : String} {A B : Nat → Prop} {U : State} {H : Heap} (h : vx_Zq C n d A U H) (hAB : ∀ q, B q → A q) : vx_Zq C n d B U H := ⟨va_Zq.narrow h.1 hAB, vx_L.narrow h.2 hAB⟩
theorem vx_Zqof {args : Array Value} {s : State} {C n d : String} {A : Nat → Prop} (hl : (Cond.laysStatic C n d).before args s = true) (hini : (Cond.initialized C).before args s = true) (h : (Cond.isRef (.static C n d)).before args s = true) (hA : ∀ a : Nat, a < s.heap.size → ¬ A a) : vx_Zq C n d A s s.heap := by
  refine ⟨va_Zqof hl hini h hA, ?_⟩
  obtain ⟨c, k, i, f, a, cell, h1, h2, h3, h4, h5, h6, h7, h8, h9⟩ := Cond.laysStatic_spec hl
  exact ⟨c, k, i, f, a, cell, h1, h2, h3, h4, h5, h6, h7, h8, h9, hA a (Array.getElem?_eq_some_iff.mp h5).1⟩
theorem vx_isRef {C n d : String} {v : Value} {A : Nat → Prop} {s : State} {args : Array Value} (h : va_Z C n d v A s s.heap) (hv : v.isRef = true) : (Cond.isRef (.static C n d)).before args s = true := by
  obtain ⟨cf, kf, fi, f, a, cell, h1, h2, h3, h4, h5, h6, h7, -⟩ := h
  have he : (Term.static C n d).eval args s none [] s = some v := by
    simp [Term.eval, State.fieldNamed?, h1, h2, h4, h5, h6, h7]
  simp only [Cond.before, Cond.holds, Cond.value, he]
  cases v <;> simp_all [Value.isRef]
theorem vx_isRefq {C n d : String} {A : Nat → Prop} {s : State} {args : Array Value} (h : va_Zq C n d A s s.heap) : (Cond.isRef (.static C n d)).before args s = true := by
  rcases h with h | ⟨t, h⟩
  · exact vx_isRef h rfl
  · exact vx_isRef h rfl
/-- the same frame, seen from here: as if the method were called anew in this heap -/
theorem vx_rebase {T : State} (X : Stand p l e R s m args below meth c T locs cells slots) {R' : Room} (hf : R'.frames ≤ R.frames) (hl : R'.locals ≤ R.locals) (hc : cells + R'.cells ≤ R.cells) (hs : slots + R'.slots ≤ R.slots) :
    Stand p l e R' ((T.setVm s.vm).setFrames (.invoking m args :: below)) m args below meth c T [] 0 0 := by
  have htop : (T.setVm s.vm).topJava?.isSome := X.here.top
  have hF : ((T.setVm s.vm).setFrames (.invoking m args :: below)).frames = .invoking m args :: below := State.frames_setFrames _ (State.cur_lt_of_top htop)
  obtain ⟨g₀, hg0⟩ := Option.isSome_iff_exists.mp htop
  obtain ⟨r, hr⟩ := State.topJava?_eq_some.mp hg0
  have hl9 : e.platform.stackLimits (T.setVm s.vm).me = e.platform.stackLimits s.me := X.limits
  have hb9 : (T.setVm s.vm).me.stackBytes = s.me.stackBytes := X.bytes
  refine ⟨X.admits, X.cas, X.clock, hF, ?_, X.hears, X.method, X.code, X.here, X.tail, X.warmed, ?_, ?_, ?_⟩
  · have h := X.room
    have hU : ((T.setVm s.vm).setFrames (.invoking m args :: below)).localsInUse = s.localsInUse := by
      rw [State.localsInUse_invoking hF (meth := meth) (c := c) X.method X.code, State.localsInUse_invoking X.frames X.method X.code]
    simp only [State.hasRoom, Bool.and_eq_true, decide_eq_true_eq] at h ⊢
    obtain ⟨⟨⟨⟨h1, h2, h3, h4, h5, h6⟩, h7⟩, h8⟩, h9⟩ := h
    rw [X.frames, List.length_cons] at h2 h3
    have q1 := X.heapSize
    have q2 := X.used
    simp only [hF, hU, List.length_cons, State.stackLimits_setFrames, State.stackBytes_setFrames, hl9, hb9]
    refine ⟨⟨⟨⟨by omega, by omega, by omega, by omega, by omega, h6⟩, ?_⟩, ?_⟩, X.book⟩
    · show T.heap.size + R'.cells ≤ e.platform.maxCells
      omega
    · show T.slotsUsed + R'.slots ≤ e.platform.maxSlots
      omega
  · rw [State.stackLimits_setFrames]; rfl
  · rw [State.stackBytes_setFrames]; rfl
  · refine ⟨?_, Nat.le_refl _, Nat.le_refl _, ?_, ?_, fun a c9 h9 => ⟨c9, h9, rfl, rfl, fun _ _ => rfl⟩⟩
    · obtain ⟨t, ht, -⟩ := State.frames_cons hr
      show T.setVm s.vm = { ((T.setVm s.vm).setFrames (.invoking m args :: below)).setFrames (T.setVm s.vm).frames with heap := T.heap, slotsUsed := T.slotsUsed }
      rw [State.setFrames_setFrames, State.setFrames_self ht]
      rfl
    · show T.slotsUsed = T.slotsUsed + ((T.heap.toList.drop T.heap.size).map (·.slots.size)).sum
      rw [List.drop_eq_nil_of_le (Nat.le_of_eq Array.length_toList)]
      rfl
    · show ((T.heap.toList.drop T.heap.size).map (·.slots.size)).sum ≤ 0
      rw [List.drop_eq_nil_of_le (Nat.le_of_eq Array.length_toList)]
      exact Nat.le_refl _
/-- 'throw new E()': new; dup; invokespecial; athrow -/
theorem vx_throw0 {cc : ByteArray} {pc : Nat} (hexec : p.tables.exec = Jvm.exec) (hb : c.code = cc) (hl : l.stackTraces = false) {own cls : String} {names : List String} {ik ic mc ms : Nat} {A : Nat → Prop}
    (hown : s.vm.findClass own = some m.cls) (hcls : Bundle.fit cls = true) (hnames : ∀ n ∈ names, Bundle.fit n = true)
    (hk : (Cond.classLink own ik cls).before args s = true) (hini : (Cond.initialized cls).before args s = true) (hat : ∀ w ∈ vx_at0 own ic cls names, w.before args s = true)
    (hgood : ∀ w ∈ Cond.classLink own ik cls :: Cond.initialized cls :: vx_at0 own ic cls names, vx_ot w = true)
    (hU : vx_Zq Bundle.tN "UNASSIGNED_STACK" Bundle.steD A s s.heap) (hN : vx_Zq Bundle.tN "SUPPRESSED_SENTINEL" Bundle.listD A s s.heap) (hS : va_S A s.heap H locs) (hsize : ls.size = c.maxLocals)
    (d0 : decode cc pc = .ok (.new ik, 3)) (d3 : decode cc (pc + 3) = .ok (.dup, 1)) (d4 : decode cc (pc + 4) = .ok (.invokespecial ic, 3)) (d7 : decode cc (pc + 7) = .ok (.athrow, 1))
    (hout : ∀ x ∈ c.exceptionTable.toList, covers x (pc + 7) = false)
    (hRframes : names.length + 3 < R.frames) (hRlocals : (rest.map fun v => v.category).sum + (13 * (names.length + 1) + 42) ≤ R.locals) (hRcells : cells + 1 ≤ R.cells) (hRslots : slots + 6 ≤ R.slots) (hlocks : meth.locks = false)
    (hx : ∀ t : State, s.vm.Alike t.vm → H.size ≤ t.heap.size → (∀ q : Nat, q < H.size → t.heap[q]? = H[q]?) → XC cls s t)
    (hf : ∀ z ∈ locs, free z.base) (hc : cells + 1 ≤ mc) (hs : slots + 6 ≤ ms) :
    W p l e R s m args below meth c H locs cells slots (vx_MQ below Qc XC args s mc ms free) (F0 m pc ls rest) := by
  intro T hT X
  have htr : e.platform.stackTraces = false := (show e.platform.stackTraces = l.stackTraces by rw [X.admits.platform]).trans hl
  have Y := vx_rebase X (R' := { frames := R.frames, locals := R.locals, cells := 1, slots := 6 }) (Nat.le_refl _) (Nat.le_refl _) hRcells hRslots
  obtain ⟨s', hA⟩ : ∃ z, z = (T.setVm s.vm).setFrames (.invoking m args :: below) := ⟨_, rfl⟩
  rw [← hA] at Y
  have hvm : s'.vm = s.vm := by rw [hA]; rfl
  have hhp : s'.heap = H := by rw [hA]; exact hT
  have hW0 : s.WarmedH s'.vm := by rw [hvm]; exact State.WarmedH.refl s
  have hat' : ∀ w ∈ vx_at0 own ic cls names, w.before args s' = true := fun w hw => vx_ot_at hW0 hvm.symm (hgood w (List.mem_cons_of_mem _ (List.mem_cons_of_mem _ hw))) (hat w hw)
  have hk' : (Cond.classLink own ik cls).before args s' = true := vx_ot_at hW0 hvm.symm (hgood _ List.mem_cons_self) hk
  have hini' : (Cond.initialized cls).before args s' = true := vx_ot_at hW0 hvm.symm (hgood _ (List.mem_cons_of_mem _ List.mem_cons_self)) hini
  have hU' : vx_Zq Bundle.tN "UNASSIGNED_STACK" Bundle.steD A s' s'.heap := by rw [hhp]; exact vx_Zq.moved hW0.alike (hU.kept hS.2.1)
  have hN' : vx_Zq Bundle.tN "SUPPRESSED_SENTINEL" Bundle.listD A s' s'.heap := by rw [hhp]; exact vx_Zq.moved hW0.alike (hN.kept hS.2.1)
  have h : ∀ w ∈ Bundle.ownAtoms0 own ic cls names, w.before args s' = true := vx_own hat' (vx_isRefq hU'.1) (vx_isRefq hN'.1) hU'.2.word hN'.2.word
  have hown' : s'.vm.findClass own = some m.cls := by rw [hvm]; exact hown
  have hins : (Cond.instantiable cls 6).before args s' = true := h _ (by simp [Bundle.ownAtoms0])
  obtain ⟨vm₁, cX, kX, hfX, hkX, -, -, X₁, st1⟩ := Y.newCold hexec (own := own) (C := cls) (index := ik) (n := 6) hown' hk' hins hini'
    (g := F0 m pc ls rest) rfl (by rw [hb]; exact d0) (Nat.le_refl _) (Nat.le_refl _)
  generalize hT1 : (T.setVm vm₁).pushCell { cls := cX, slots := kX.instanceTypes.map defaultValue, vm := .none } = T1 at X₁ st1
  have hcat : (Value.ref T.heap.size).category = 1 := rfl
  have hcellA : T1.heap[T.heap.size]? = some (freshCell cX kX) := by rw [← hT1]; exact State.heap_pushCell_size _ _
  have d3' : decode c.code (pc + 3) = .ok (.dup, 1) := by rw [hb]; exact d3
  obtain ⟨U, hsteps, hrun, hend, hW, hsame, ce, hce, hO⟩ := X₁.ctorThrow0 hexec htr (own := own) (cls := cls) (names := names) (ic := ic) hown' hcls hnames h (fun x hx => nomatch hx) hfX hkX hcellA (by rw [hhp, hT]; exact Nat.le_refl _)
    (g := { method := m, pc := pc + 4, locals := ls, stack := .ref T.heap.size :: .ref T.heap.size :: rest, locked := none }) rfl hsize rfl rfl (rest := rest) rfl
    (by rw [hb]; exact d4) (by rw [hb]; exact d7) hout hRframes (by simp only [List.map_cons, List.sum_cons, hcat]; omega) hlocks
  obtain ⟨f1, f2⟩ := vx_frame hsame
  rw [hhp] at f1 f2
  have hWs : s.WarmedH U.vm := State.WarmedH.trans hW0 hW
  have hcl : s.vm.findClass cls = some ce.cls := by
    have h9 := hO.cls
    rw [hvm] at h9
    exact h9
  have hall : s.sameButNew ({ U with vm := s.vm } : State) locs mc ms := by
    subst hA
    obtain ⟨e1, e2⟩ := hsame
    rw [State.setFrames_setFrames] at e1
    have h2 : (T.setVm s.vm).sameButNew ({ U with vm := s.vm } : State) [] (0 + 1) (0 + 6) := ⟨e1, e2⟩
    have h3 := X.same.trans h2
    rw [List.append_nil] at h3
    exact h3.mono hc hs
  refine ⟨U, ?_, .threw T.heap.size, hrun, hend, Or.inr ⟨T.heap.size, rfl, cls, ce, locs, hx U hWs.alike f1 (fun q hq => f2 q hq (fun z hz => nomatch hz)), hce, hO.vm, hcl, hWs, hall, hf⟩⟩
  refine st1 _ ?_
  show Steps p.tables e below (T1.setTop { method := m, pc := pc + 3, locals := ls, stack := .ref T.heap.size :: rest, locked := none }) _
  jvm_step X₁.here [X₁.here.top, hexec, d3', Value.category]
  exact hsteps
/-- 'throw new E("text")': new; dup; ldc; invokespecial; athrow -/
theorem vx_throwS {cc : ByteArray} {pc : Nat} (hexec : p.tables.exec = Jvm.exec) (hb : c.code = cc) (hl : l.stackTraces = false) {own cls text : String} {names : List String} {ik is ic mc ms sa : Nat} {A : Nat → Prop}
    (hown : s.vm.findClass own = some m.cls) (hcls : Bundle.fit cls = true) (hnames : ∀ n ∈ names, Bundle.fit n = true)
    (hk : (Cond.classLink own ik cls).before args s = true) (hini : (Cond.initialized cls).before args s = true) (hstr : vk_R own is text sa s) (hat : ∀ w ∈ vx_atS own ic cls names, w.before args s = true)
    (hgood : ∀ w ∈ Cond.classLink own ik cls :: Cond.initialized cls :: vx_atS own ic cls names, vx_ot w = true)
    (hU : vx_Zq Bundle.tN "UNASSIGNED_STACK" Bundle.steD A s s.heap) (hN : vx_Zq Bundle.tN "SUPPRESSED_SENTINEL" Bundle.listD A s s.heap) (hS : va_S A s.heap H locs) (hsize : ls.size = c.maxLocals)
    (d0 : decode cc pc = .ok (.new ik, 3)) (d3 : decode cc (pc + 3) = .ok (.dup, 1)) (d4 : decode cc (pc + 4) = .ok (.ldc is, 2)) (d6 : decode cc (pc + 6) = .ok (.invokespecial ic, 3)) (d9 : decode cc (pc + 9) = .ok (.athrow, 1))
    (hout : ∀ x ∈ c.exceptionTable.toList, covers x (pc + 9) = false)
    (hRframes : names.length + 3 < R.frames) (hRlocals : (rest.map fun v => v.category).sum + (13 * (names.length + 1) + 43) ≤ R.locals) (hRcells : cells + 1 ≤ R.cells) (hRslots : slots + 6 ≤ R.slots) (hlocks : meth.locks = false)
    (hx : ∀ t : State, s.vm.Alike t.vm → H.size ≤ t.heap.size → (∀ q : Nat, q < H.size → t.heap[q]? = H[q]?) → XC cls s t)
    (hf : ∀ z ∈ locs, free z.base) (hc : cells + 1 ≤ mc) (hs : slots + 6 ≤ ms) :
    W p l e R s m args below meth c H locs cells slots (vx_MQ below Qc XC args s mc ms free) (F0 m pc ls rest) := by
  intro T hT X
  have htr : e.platform.stackTraces = false := (show e.platform.stackTraces = l.stackTraces by rw [X.admits.platform]).trans hl
  have Y := vx_rebase X (R' := { frames := R.frames, locals := R.locals, cells := 1, slots := 6 }) (Nat.le_refl _) (Nat.le_refl _) hRcells hRslots
  obtain ⟨s', hA⟩ : ∃ z, z = (T.setVm s.vm).setFrames (.invoking m args :: below) := ⟨_, rfl⟩
  rw [← hA] at Y
  have hvm : s'.vm = s.vm := by rw [hA]; rfl
  have hhp : s'.heap = H := by rw [hA]; exact hT
  have hW0 : s.WarmedH s'.vm := by rw [hvm]; exact State.WarmedH.refl s
  have hat' : ∀ w ∈ vx_atS own ic cls names, w.before args s' = true := fun w hw => vx_ot_at hW0 hvm.symm (hgood w (List.mem_cons_of_mem _ (List.mem_cons_of_mem _ hw))) (hat w hw)
  have hk' : (Cond.classLink own ik cls).before args s' = true := vx_ot_at hW0 hvm.symm (hgood _ List.mem_cons_self) hk
  have hini' : (Cond.initialized cls).before args s' = true := vx_ot_at hW0 hvm.symm (hgood _ (List.mem_cons_of_mem _ List.mem_cons_self)) hini
  have hU' : vx_Zq Bundle.tN "UNASSIGNED_STACK" Bundle.steD A s' s'.heap := by rw [hhp]; exact vx_Zq.moved hW0.alike (hU.kept hS.2.1)
  have hN' : vx_Zq Bundle.tN "SUPPRESSED_SENTINEL" Bundle.listD A s' s'.heap := by rw [hhp]; exact vx_Zq.moved hW0.alike (hN.kept hS.2.1)
  have h : ∀ w ∈ Bundle.ownAtoms own ic cls names, w.before args s' = true := vx_own hat' (vx_isRefq hU'.1) (vx_isRefq hN'.1) hU'.2.word hN'.2.word
  have hown' : s'.vm.findClass own = some m.cls := by rw [hvm]; exact hown
  have hins : (Cond.instantiable cls 6).before args s' = true := h _ (by simp [Bundle.ownAtoms])
  obtain ⟨vm₁, cX, kX, hfX, hkX, -, -, X₁, st1⟩ := Y.newCold hexec (own := own) (C := cls) (index := ik) (n := 6) hown' hk' hins hini'
    (g := F0 m pc ls rest) rfl (by rw [hb]; exact d0) (Nat.le_refl _) (Nat.le_refl _)
  generalize hT1 : (T.setVm vm₁).pushCell { cls := cX, slots := kX.instanceTypes.map defaultValue, vm := .none } = T1 at X₁ st1
  have hcat : (Value.ref T.heap.size).category = 1 := rfl
  have hcellA : T1.heap[T.heap.size]? = some (freshCell cX kX) := by rw [← hT1]; exact State.heap_pushCell_size _ _
  have d3' : decode c.code (pc + 3) = .ok (.dup, 1) := by rw [hb]; exact d3
  have d4' : decode c.code (pc + 4) = .ok (.ldc is, 2) := by rw [hb]; exact d4
  have hstr' : vk_R own is text sa s' := vk_R.warm hW0 hstr
  obtain ⟨U, hsteps, hrun, hend, hW, hsame, ce, hce, hO⟩ := X₁.ctorThrowS hexec htr (own := own) (cls := cls) (names := names) (ic := ic) hown' hcls hnames h (fun x hx => nomatch hx) hfX hkX hcellA (by rw [hhp, hT]; exact Nat.le_refl _) (msg := .ref sa) rfl
    (g := { method := m, pc := pc + 6, locals := ls, stack := .ref sa :: .ref T.heap.size :: .ref T.heap.size :: rest, locked := none }) rfl hsize rfl rfl (rest := rest) rfl
    (by rw [hb]; exact d6) (by rw [hb]; exact d9) hout hRframes (by simp only [List.map_cons, List.sum_cons, hcat]; omega) hlocks
  obtain ⟨f1, f2⟩ := vx_frame hsame
  rw [hhp] at f1 f2
  have hWs : s.WarmedH U.vm := State.WarmedH.trans hW0 hW
  have hcl : s.vm.findClass cls = some ce.cls := by
    have h9 := hO.cls
    rw [hvm] at h9
    exact h9
  have hall : s.sameButNew ({ U with vm := s.vm } : State) locs mc ms := by
    subst hA
    obtain ⟨e1, e2⟩ := hsame
    rw [State.setFrames_setFrames] at e1
    have h2 : (T.setVm s.vm).sameButNew ({ U with vm := s.vm } : State) [] (0 + 1) (0 + 6) := ⟨e1, e2⟩
    have h3 := X.same.trans h2
    rw [List.append_nil] at h3
    exact h3.mono hc hs
  refine ⟨U, ?_, .threw T.heap.size, hrun, hend, Or.inr ⟨T.heap.size, rfl, cls, ce, locs, hx U hWs.alike f1 (fun q hq => f2 q hq (fun z hz => nomatch hz)), hce, hO.vm, hcl, hWs, hall, hf⟩⟩
  refine st1 _ ?_
  show Steps p.tables e below (T1.setTop { method := m, pc := pc + 3, locals := ls, stack := .ref T.heap.size :: rest, locked := none }) _
  jvm_step X₁.here [X₁.here.top, hexec, d3', Value.category]
  exact X₁.ldcString hexec (own := own) (text := text) (index := is) (a := sa) hown' hstr'.1 hstr'.2
    (g := { method := m, pc := pc + 4, locals := ls, stack := .ref T.heap.size :: .ref T.heap.size :: rest, locked := none }) rfl d4' _ hsteps
/-- 'throw new E("text")', the text by a wide index -/
theorem vx_throwSW {cc : ByteArray} {pc : Nat} (hexec : p.tables.exec = Jvm.exec) (hb : c.code = cc) (hl : l.stackTraces = false) {own cls text : String} {names : List String} {ik is ic mc ms sa : Nat} {A : Nat → Prop}
    (hown : s.vm.findClass own = some m.cls) (hcls : Bundle.fit cls = true) (hnames : ∀ n ∈ names, Bundle.fit n = true)
    (hk : (Cond.classLink own ik cls).before args s = true) (hini : (Cond.initialized cls).before args s = true) (hstr : vk_R own is text sa s) (hat : ∀ w ∈ vx_atS own ic cls names, w.before args s = true)
    (hgood : ∀ w ∈ Cond.classLink own ik cls :: Cond.initialized cls :: vx_atS own ic cls names, vx_ot w = true)
    (hU : vx_Zq Bundle.tN "UNASSIGNED_STACK" Bundle.steD A s s.heap) (hN : vx_Zq Bundle.tN "SUPPRESSED_SENTINEL" Bundle.listD A s s.heap) (hS : va_S A s.heap H locs) (hsize : ls.size = c.maxLocals)
    (d0 : decode cc pc = .ok (.new ik, 3)) (d3 : decode cc (pc + 3) = .ok (.dup, 1)) (d4 : decode cc (pc + 4) = .ok (.ldc_w is, 3)) (d7 : decode cc (pc + 7) = .ok (.invokespecial ic, 3)) (d10 : decode cc (pc + 10) = .ok (.athrow, 1))
    (hout : ∀ x ∈ c.exceptionTable.toList, covers x (pc + 10) = false)
    (hRframes : names.length + 3 < R.frames) (hRlocals : (rest.map fun v => v.category).sum + (13 * (names.length + 1) + 43) ≤ R.locals) (hRcells : cells + 1 ≤ R.cells) (hRslots : slots + 6 ≤ R.slots) (hlocks : meth.locks = false)
    (hx : ∀ t : State, s.vm.Alike t.vm → H.size ≤ t.heap.size → (∀ q : Nat, q < H.size → t.heap[q]? = H[q]?) → XC cls s t)
    (hf : ∀ z ∈ locs, free z.base) (hc : cells + 1 ≤ mc) (hs : slots + 6 ≤ ms) :
    W p l e R s m args below meth c H locs cells slots (vx_MQ below Qc XC args s mc ms free) (F0 m pc ls rest) := by
  intro T hT X
  have htr : e.platform.stackTraces = false := (show e.platform.stackTraces = l.stackTraces by rw [X.admits.platform]).trans hl
  have Y := vx_rebase X (R' := { frames := R.frames, locals := R.locals, cells := 1, slots := 6 }) (Nat.le_refl _) (Nat.le_refl _) hRcells hRslots
  obtain ⟨s', hA⟩ : ∃ z, z = (T.setVm s.vm).setFrames (.invoking m args :: below) := ⟨_, rfl⟩
  rw [← hA] at Y
  have hvm : s'.vm = s.vm := by rw [hA]; rfl
  have hhp : s'.heap = H := by rw [hA]; exact hT
  have hW0 : s.WarmedH s'.vm := by rw [hvm]; exact State.WarmedH.refl s
  have hat' : ∀ w ∈ vx_atS own ic cls names, w.before args s' = true := fun w hw => vx_ot_at hW0 hvm.symm (hgood w (List.mem_cons_of_mem _ (List.mem_cons_of_mem _ hw))) (hat w hw)
  have hk' : (Cond.classLink own ik cls).before args s' = true := vx_ot_at hW0 hvm.symm (hgood _ List.mem_cons_self) hk
  have hini' : (Cond.initialized cls).before args s' = true := vx_ot_at hW0 hvm.symm (hgood _ (List.mem_cons_of_mem _ List.mem_cons_self)) hini
  have hU' : vx_Zq Bundle.tN "UNASSIGNED_STACK" Bundle.steD A s' s'.heap := by rw [hhp]; exact vx_Zq.moved hW0.alike (hU.kept hS.2.1)
  have hN' : vx_Zq Bundle.tN "SUPPRESSED_SENTINEL" Bundle.listD A s' s'.heap := by rw [hhp]; exact vx_Zq.moved hW0.alike (hN.kept hS.2.1)
  have h : ∀ w ∈ Bundle.ownAtoms own ic cls names, w.before args s' = true := vx_own hat' (vx_isRefq hU'.1) (vx_isRefq hN'.1) hU'.2.word hN'.2.word
  have hown' : s'.vm.findClass own = some m.cls := by rw [hvm]; exact hown
  have hins : (Cond.instantiable cls 6).before args s' = true := h _ (by simp [Bundle.ownAtoms])
  obtain ⟨vm₁, cX, kX, hfX, hkX, -, -, X₁, st1⟩ := Y.newCold hexec (own := own) (C := cls) (index := ik) (n := 6) hown' hk' hins hini'
    (g := F0 m pc ls rest) rfl (by rw [hb]; exact d0) (Nat.le_refl _) (Nat.le_refl _)
  generalize hT1 : (T.setVm vm₁).pushCell { cls := cX, slots := kX.instanceTypes.map defaultValue, vm := .none } = T1 at X₁ st1
  have hcat : (Value.ref T.heap.size).category = 1 := rfl
  have hcellA : T1.heap[T.heap.size]? = some (freshCell cX kX) := by rw [← hT1]; exact State.heap_pushCell_size _ _
  have d3' : decode c.code (pc + 3) = .ok (.dup, 1) := by rw [hb]; exact d3
  have d4' : decode c.code (pc + 4) = .ok (.ldc_w is, 3) := by rw [hb]; exact d4
  have hstr' : vk_R own is text sa s' := vk_R.warm hW0 hstr
  obtain ⟨U, hsteps, hrun, hend, hW, hsame, ce, hce, hO⟩ := X₁.ctorThrowS hexec htr (own := own) (cls := cls) (names := names) (ic := ic) hown' hcls hnames h (fun x hx => nomatch hx) hfX hkX hcellA (by rw [hhp, hT]; exact Nat.le_refl _) (msg := .ref sa) rfl
    (g := { method := m, pc := pc + 7, locals := ls, stack := .ref sa :: .ref T.heap.size :: .ref T.heap.size :: rest, locked := none }) rfl hsize rfl rfl (rest := rest) rfl
    (by rw [hb]; exact d7) (by rw [hb]; exact d10) hout hRframes (by simp only [List.map_cons, List.sum_cons, hcat]; omega) hlocks
  obtain ⟨f1, f2⟩ := vx_frame hsame
  rw [hhp] at f1 f2
  have hWs : s.WarmedH U.vm := State.WarmedH.trans hW0 hW
  have hcl : s.vm.findClass cls = some ce.cls := by
    have h9 := hO.cls
    rw [hvm] at h9
    exact h9
  have hall : s.sameButNew ({ U with vm := s.vm } : State) locs mc ms := by
    subst hA
    obtain ⟨e1, e2⟩ := hsame
    rw [State.setFrames_setFrames] at e1
    have h2 : (T.setVm s.vm).sameButNew ({ U with vm := s.vm } : State) [] (0 + 1) (0 + 6) := ⟨e1, e2⟩
    have h3 := X.same.trans h2
    rw [List.append_nil] at h3
    exact h3.mono hc hs
  refine ⟨U, ?_, .threw T.heap.size, hrun, hend, Or.inr ⟨T.heap.size, rfl, cls, ce, locs, hx U hWs.alike f1 (fun q hq => f2 q hq (fun z hz => nomatch hz)), hce, hO.vm, hcl, hWs, hall, hf⟩⟩
  refine st1 _ ?_
  show Steps p.tables e below (T1.setTop { method := m, pc := pc + 3, locals := ls, stack := .ref T.heap.size :: rest, locked := none }) _
  jvm_step X₁.here [X₁.here.top, hexec, d3', Value.category]
  exact X₁.ldcStringW hexec (own := own) (text := text) (index := is) (a := sa) hown' hstr'.1 hstr'.2
    (g := { method := m, pc := pc + 4, locals := ls, stack := .ref T.heap.size :: .ref T.heap.size :: rest, locked := none }) rfl d4' _ hsteps
end Ends
section Bodies
variable {l : Launch}
theorem vx_ofW {y : MethodName} {ws ws' : List Cond} {rm : Room} {Pc : Array Value → State → Prop} {Qc : Array Value → State → Outcome → State → Prop} {XC : String → State → State → Prop} {mc ms : Nat} {free : Addr → Prop} {cc : ByteArray} {maxL : Nat} {ret : Option FieldType}
    (hy : plainName y.cls = true) (hw : ws = Cond.code y cc maxL ret :: ws')
    (body : ∀ p e s m args below meth c s₁, BodyLoose p l y (headSpec ws rm) cc maxL ret e s m args below meth c s₁ → c.maxLocals = maxL → (∀ x ∈ c.exceptionTable.toList, False) → Pc args s →
      W p l e (headSpec ws rm).room s m args below meth c s.heap [] 0 0 (vx_MQ below Qc XC args s mc ms free) (entryFrame m args maxL)) : vx_Met l y ws rm Pc Qc XC mc ms free := by
  refine MetFree.of_bodyS (code := cc) (maxLocals := maxL) (ret := ret) hy ?_ ?_
  · intro args s m h hn
    obtain ⟨meth, c, h1, h2, h3, h4, h5, h6, -, -⟩ := Cond.code_spec hn (atoms_spec (ws := ws) h _ (by rw [hw]; exact List.mem_cons_self))
    exact ⟨meth, c, h1, h2, h3, h4, h5, h6⟩
  · intro p e s m args below meth c s₁ B hml hP _
    have hh0 : s₁.heap = s.heap := by rw [B.state]; rfl
    have ht : ∀ x ∈ c.exceptionTable.toList, False := by
      obtain ⟨meth9, c9, h1, h2, -, -, -, -, h7, -⟩ := Cond.code_spec B.named (atoms_spec (ws := ws) B.pre _ (by rw [hw]; exact List.mem_cons_self))
      cases Option.some.inj (h1.symm.trans B.method)
      cases Option.some.inj (h2.symm.trans (Stand.of_body B).code)
      intro x hx
      rw [Array.isEmpty_iff.mp h7] at hx
      cases hx
    obtain ⟨t, a1, o, b1, b2, b3⟩ := body p e s m args below meth c s₁ B hml ht hP s₁ hh0 (Stand.of_body B)
    exact ⟨t, o, a1, b1, b2, b3⟩
/-- the table of a body with handlers -/
theorem vx_table {p : Program} {x y : MethodName} {S : Spec} {cc bytes : ByteArray} {maxL maxL' : Nat} {ret ret' : Option FieldType} {e : Env} {s s₁ : State} {m : MethodId} {args : Array Value} {below : List Frame} {meth : Method} {c : Code} {hh : List (Nat × Nat × Nat × Nat)}
    (B : BodyLoose p l y S cc maxL ret e s m args below meth c s₁) (h : (Cond.codeWith y bytes maxL' ret' hh).before args s = true) : c.exceptionTable.toList = tableOf hh := by
  obtain ⟨m9, meth9, c9, hn9, h1, h2, -, -, h6, -⟩ := Cond.codeWith_spec h
  cases Option.some.inj (hn9.symm.trans B.named)
  cases Option.some.inj (h1.symm.trans B.method)
  cases Option.some.inj (h2.symm.trans (Stand.of_body B).code)
  rw [← h6, table_eq]
end Bodies
end VXA
/-! ===== END ===== -/
/-! ===== BEGIN a static call of a method with an exception table ===== -/
section VXS
variable {p : Program} {l : Launch} {e : Env} {R : Room} {s : State} {m : MethodId} {args : Array Value} {below : List Frame} {meth : Method} {c : Code} {T : State} {H : Heap} {locs : List Loc} {cells slots : Nat}
abbrev vx_CSW (R : Room) (s : State) (args : Array Value) (own : String) (index : Nat) (y : MethodName) (bytes : ByteArray) (maxL : Nat) (ret : Option FieldType) (hh : List (Nat × Nat × Nat × Nat)) (ws : List Cond) (rm : Room) (mc ms n : Nat) : Prop :=
  (rm.cells = mc ∧ rm.slots = ms ∧ rm.frames + 1 ≤ R.frames ∧ 8 + (maxL + 11) + rm.locals ≤ R.locals ∧ (∀ w ∈ ws, ∀ (a' : Array Value) (U : State), s.WarmedH U.vm → w.before a' U = true) ∧ Cond.codeWith y bytes maxL ret hh ∈ ws) ∧
  (Cond.codeWith y bytes maxL ret hh).before args s = true ∧ (Cond.initialized y.cls).before args s = true ∧ (y.cls ≠ "java/lang/invoke/MethodHandle" ∧ y.cls ≠ "java/lang/invoke/VarHandle") ∧
  (∀ sig, parseMethodDescriptor y.desc = some sig → n = sig.parameters.length) ∧ (Cond.methodLink own index y).before args s = true ∧ (Cond.static y).before args s = true
theorem vx_cwSW {own : String} {index maxL mc ms : Nat} {y : MethodName} {bytes : ByteArray} {ret : Option FieldType} {hh : List (Nat × Nat × Nat × Nat)} {Ts ws ws' : List Cond} {rm : Room} (n : Nat) (ht : ∀ w ∈ Ts, w.before args s = true) (hT : GoodIn Ts (va_wsS own index y ws)) (hw : ws = Cond.codeWith y bytes maxL ret hh :: ws') (hrc : rm.cells = mc) (hrs : rm.slots = ms)
    (hd : y.cls ≠ "java/lang/invoke/MethodHandle" ∧ y.cls ≠ "java/lang/invoke/VarHandle" ∧ (parseMethodDescriptor y.desc).map (fun d => d.parameters.length) = some n) (hR : rm.frames + 1 ≤ R.frames ∧ 8 + (maxL + 11) + rm.locals ≤ R.locals) :
    vx_CSW R s args own index y bytes maxL ret hh ws rm mc ms n := by
  have ok : ∀ w ∈ va_wsS own index y ws, w.before args s = true := fun w h => ht w (hT w h).1
  have hG : GoodIn Ts ws := fun w h => hT w (by unfold va_wsS; exact List.mem_append_right _ h)
  have hc : Cond.codeWith y bytes maxL ret hh ∈ ws := by rw [hw]; exact List.mem_cons_self
  refine ⟨⟨hrc, hrs, hR.1, hR.2, pay_in ht hG, hc⟩, ht _ (hG _ hc).1, ok _ (by simp [va_wsS]), ⟨hd.1, hd.2.1⟩, fun sig h => ?_, ok _ (by simp [va_wsS]), ok _ (by simp [va_wsS])⟩
  have h2 := hd.2.2
  rw [h] at h2
  exact (Option.some.inj h2).symm
theorem vx_callSW (X : Stand p l e R s m args below meth c T locs cells slots) (hexec : p.tables.exec = Jvm.exec) {own : String} {index : Nat} {y : MethodName} {bytes : ByteArray} {maxL : Nat} {ret : Option FieldType} {hh : List (Nat × Nat × Nat × Nat)}
    (hown : s.vm.findClass own = some m.cls) (hlink : (Cond.methodLink own index y).before args s = true) (hstat : (Cond.static y).before args s = true) (hinit : (Cond.initialized y.cls).before args s = true)
    (hcode : (Cond.codeWith y bytes maxL ret hh).before args s = true) (hy : y.cls ≠ "java/lang/invoke/MethodHandle" ∧ y.cls ≠ "java/lang/invoke/VarHandle")
    {W9 : Nat} {Pre : Pt → Array Value → Prop} {Post : Pt → Array Value → Option Value → Pt → Prop} (hK : Back l R p e below s args y 3 W9 Pre Post)
    {g : JFrame} (hg : g.method = m) (hsize : g.locals.size = c.maxLocals) {argsL rest : List Value} (hlen : ∀ sig, parseMethodDescriptor y.desc = some sig → argsL.length = sig.parameters.length)
    (hstack : g.stack = argsL.reverse ++ rest) (hW : 2 * g.monitorRoom + (rest.map fun v => v.category).sum ≤ W9) (hdg : decode c.code g.pc = .ok (.invokestatic index, 3))
    (hpre : ∀ vm₁, s.WarmedH vm₁ → Pre ⟨T.setVm vm₁, locs, cells, slots⟩ argsL.toArray) :
    ∃ (v : Option Value) (vm₁ : Vm) (B : Pt), s.WarmedH vm₁ ∧ Stand p l e R s m args below meth c B.U B.locs B.cells B.slots ∧ Post ⟨T.setVm vm₁, locs, cells, slots⟩ argsL.toArray v B ∧
      ∀ target, Steps p.tables e below (B.U.setTop { g with pc := g.pc + 3, stack := v.toList ++ rest }) target → Steps p.tables e below (T.setTop g) target := by
  obtain ⟨mk, methM, cM, hnamed, hmethM, -, -, -, -, -, -, hsigM⟩ := Cond.codeWith_spec hcode
  have hstatic : methM.isStatic = true := Cond.static_spec hnamed hmethM hstat
  obtain ⟨kP, hkP, -⟩ := className_of_methodNamed hnamed
  have hinitP : kP.init = .initialized := Cond.initialized_spec (findClass_of_methodNamed hnamed) hkP hinit
  obtain ⟨vm₁, X₁, hstep₁⟩ := X.invokestatic hexec hown hlink hnamed hmethM hstatic hkP hinitP hy (g := g) hg (argsL := argsL) (rest := rest) (hlen _ hsigM) hstack hdg
  obtain ⟨v, B, X', hpost, hsteps⟩ := hK m meth c ⟨T.setVm vm₁, locs, cells, slots⟩ { g with stack := rest } (.invokestatic index) mk argsL.toArray X₁ hg hsize hdg hW (X₁.named hnamed) (hpre vm₁ X₁.warmed)
  exact ⟨v, vm₁, B, X₁.warmed, X', hpost, fun target h => hstep₁ _ fun acts => by rw [doInvoke_state]; exact hsteps.trans h⟩
theorem vx_runSW {y : MethodName} {bytes cc : ByteArray} {maxL nL mc ms n index : Nat} {ret : Option FieldType} {hh : List (Nat × Nat × Nat × Nat)} {ws : List Cond} {rm : Room} {Pc : Array Value → State → Prop} {Qc : Array Value → State → Outcome → State → Prop} {free : Addr → Prop} {Ts : List Cond} {own : String} {As rest : List Value} {g : JFrame}
    (S : CallFix p m c cc nL s args Ts own) (hM : Met l y ws rm Pc Qc mc ms free) (cw : vx_CSW R s args own index y bytes maxL ret hh ws rm mc ms n) (hp : PreS s H Pc As)
    (hg : g.method = m) (hn : As.length = n) (hsize : g.locals.size = nL) (hstack : g.stack = As.reverse ++ rest) (hW : 2 * g.monitorRoom + (rest.map fun v => v.category).sum ≤ 8) (hdg : decode cc g.pc = .ok (.invokestatic index, 3)) (hf : cells + mc ≤ R.cells ∧ slots + ms ≤ R.slots) :
    va_Run p l e R s m args below meth c H locs cells slots mc ms g rest (Qc As.toArray) (free) := by
  obtain ⟨⟨hrc, hrs, hfr, hlo, hws, hcw⟩, hcode, hini, hy, hlen, hl, hstt⟩ := cw
  have hK : Back l R p e below s args y 3 8 (PreOf R mc ms Pc) (PostOf Qc mc ms free) := va_backW (hh := hh) (bytes := bytes) (maxL := maxL) (ret := ret) hM hp.1 hrc hrs hfr hlo hws hcw (fun a' U hW => word_at hW (Or.inl (by first | rfl | simp [Cond.onTables, Cond.keeps, Cond.steady])) hini)
  obtain ⟨hx, hb, hml, ho, -⟩ := S
  intro T hT X
  obtain ⟨v, vm₁, ⟨U', l2, c2, s2⟩, hW₁, X', ⟨g', mk, t, L, e1, e2, hq, h1, hL, h2, h3⟩, st⟩ := vx_callSW X hx (hh := hh) (bytes := bytes) (maxL := maxL) (ret := ret) ho hl hstt hini hcode hy hK hg (hsize.trans hml.symm) (argsL := As) (rest := rest) (fun sig h => hn.trans (hlen sig h)) hstack hW (by rw [hb]; exact hdg)
    (fun vm₁ hW₁ => ⟨hf.1, hf.2, hp.2 (T.setVm vm₁) hT hW₁⟩)
  dsimp only [Pt.U, Pt.locs, Pt.cells, Pt.slots] at X' e1 e2 h1 h2 h3 st
  subst h1; subst h2; subst h3
  exact ⟨v, (T.setVm vm₁).calling g' mk As.toArray, t, U', L, hT, X', hL, e1, e2, hq, st⟩
/-- not caught here, past rows that name other classes: it goes on to the caller -/
theorem vx_outP {p : Program} {l : Launch} {e : Env} {R : Room} {s : State} {m : MethodId} {args : Array Value} {below : List Frame} {meth : Method} {c : Code} {H : Heap} {locs : List Loc} {cells slots : Nat} {free : Addr → Prop} {ls : Array Slot} {rest : List Value} {Qc : Array Value → State → Outcome → State → Prop} {XC : String → State → State → Prop}
    {pc : Nat} {own E : String} {ce : Cell} {q : Addr} {mc ms : Nat} (hown : s.vm.findClass own = some m.cls) (hlocks : meth.locks = false)
    (hpass : ∀ z ∈ c.exceptionTable.toList, covers z pc = false ∨ (z.catchType ≠ 0 ∧ ∃ nm : String, (Cond.classLink own z.catchType nm).before args s = true ∧ va_Nc E nm s)) (hcell : H[q]? = some ce) (hv : ce.vm = .none) (hcl : s.vm.findClass E = some ce.cls)
    (hx : ∀ t : State, t.heap = H → s.vm.Alike t.vm → XC E s t) (hf : ∀ z ∈ locs, free z.base) (hc : cells ≤ mc) (hs : slots ≤ ms) :
    vx_W p l e R s m args below meth c H locs cells slots (vx_MQ below Qc XC args s mc ms free) (F0 m pc ls rest) q := by
  intro T hT X
  have hpl : e.platform.magicAccessors = ({} : Platform).magicAccessors := by rw [X.admits.platform]
  obtain ⟨vm', hW', X', st⟩ := X.outThrough hlocks q (g := F0 m pc ls rest) rfl rfl rfl (cell := ce) (by rw [hT]; exact hcell) (by rw [hv]; rfl)
    (by obtain ⟨k9, h9, -⟩ := Vm.findClass_spec hcl; exact ⟨k9, h9⟩) (fun z hz => by
      rcases hpass z hz with h | ⟨hz0, nm, hl1, hn1⟩
      · exact Or.inl h
      · obtain ⟨c6, hc6, hcl6⟩ := Cond.classLink_spec hown hl1 e.platform hpl
        obtain ⟨a8, b8, h1, h2, h3⟩ := hn1
        cases Option.some.inj (h1.symm.trans hcl)
        cases Option.some.inj (h2.symm.trans hc6)
        exact Or.inr ⟨hz0, _, hcl6, h3⟩)
  obtain ⟨g₀, hfr⟩ := X'.frames_eq
  have hcell9 : ((T.setVm vm').setFrames (.throwing q :: below)).heap[q]? = some ce := by
    show T.heap[q]? = some ce
    rw [hT]; exact hcell
  have hend : Ended ((T.setVm vm').setFrames (.throwing q :: below)) below (.threw q) := State.frames_setFrames _ (State.cur_lt_of_frames hfr)
  refine ⟨(T.setVm vm').setFrames (.throwing q :: below), ?_, .threw q, X'.here.running, hend, Or.inr ⟨q, rfl, E, ce, locs, hx _ hT (X'.ends _).1.alike, hcell9, hv, hcl, (X'.ends _).1, (X'.ends _).2.mono hc hs, hf⟩⟩
  rw [X.pushThrowing_eq]
  exact st
/-- a thing of a world lies in the heap -/
theorem vx_lt {D : va_G} {cl : List vw_C} {ws : va_W} {H1 : Heap} (h : va_P D cl ws H1) {k : Nat} {q : Nat × va_E} (hk : ws[k]? = some q) : q.1 < H1.size := (h k q hk).lt
end VXS
/-! ===== END ===== -/
/-! ===== BEGIN methods with a table of their own: called by a name, returning or throwing ===== -/
section VXH
/-! vx_backW, vx_callVX, vx_callSX, vx_callVW, vx_runVW, vx_runVX, vx_runSX, vx_ofWH follow the same proofs as their sisters above (Free/Laws.lean, Shelf42/LK1.lean); vx_outP calls Shelf42/NT130.lean (outThrough). -/
section
variable {l : Launch} {R : Room} {p : Program} {e : Env} {below : List Frame} {s : State} {sargs : Array Value} {y : MethodName} {len W9 : Nat}
theorem vx_backW {ws : List Cond} {rm : Room} {Pc : Array Value → State → Prop} {Qc : Array Value → State → Outcome → State → Prop} {XC : String → State → State → Prop} {mc ms : Nat} {free : Addr → Prop} {bytes : ByteArray} {maxL : Nat} {ret : Option FieldType} {hh : List (Nat × Nat × Nat × Nat)}
    (hM : vx_Met l y ws rm Pc Qc XC mc ms free) (hblind : FrameBlind Pc) (hrc : rm.cells = mc) (hrs : rm.slots = ms)
    (hframes : rm.frames + 1 ≤ R.frames) (hlocals : W9 + (maxL + 11) + rm.locals ≤ R.locals)
    (hws : ∀ w ∈ ws, ∀ a' U, s.WarmedH U.vm → w.before a' U = true) (hcode : Cond.codeWith y bytes maxL ret hh ∈ ws) (hinit : ∀ a' U, s.WarmedH U.vm → (Cond.initialized y.cls).before a' U = true) :
    vx_Back l R p e below s sargs y len W9 (PreOf R mc ms Pc) (PostOf Qc mc ms free) (vx_Post XC mc ms free) := by
  intro m meth c A g ig mk a X hg hsize hdg hW hn hp
  have h1 : (headSpec ws rm).pre.before a A.U = true := atoms_intro fun w hw => hws w hw _ _ X.warmed
  have h2 : (Cond.codeWith y bytes maxL ret hh).before a A.U = true := hws _ hcode _ _ X.warmed
  have h3 : (Cond.initialized y.cls).before a A.U = true := hinit _ _ X.warmed
  have h4 : A.cells + (headSpec ws rm).room.cells ≤ R.cells := by rw [show (headSpec ws rm).room.cells = mc from hrc]; exact hp.1
  have h5 : A.slots + (headSpec ws rm).room.slots ≤ R.slots := by rw [show (headSpec ws rm).room.slots = ms from hrs]; exact hp.2.1
  have hPc : Pc a (A.U.calling g mk a) := hblind _ _ _ _ hp.2.2
  obtain ⟨U, Ls, c0, s0⟩ := A
  dsimp only [Pt.U, Pt.locs, Pt.cells, Pt.slots] at h1 h2 h3 h4 h5 X hn hPc ⊢
  obtain ⟨m9, methY, cY, hn9, hmY, hcY, -, hlY, -⟩ := Cond.codeWith_spec h2
  cases Option.some.inj (hn9.symm.trans hn)
  obtain ⟨kY, hkY, -⟩ := className_of_methodNamed hn
  have hinitY : kY.init = .initialized := Cond.initialized_spec (findClass_of_methodNamed hn) hkY h3
  have h : At U g.method c below := by rw [hg]; exact X.here
  have hlocals9 : W9 + (maxL + 11) + (headSpec ws rm).room.locals ≤ R.locals := hlocals
  have happ : (headSpec ws rm).appliesLoose y e.platform (U.calling g mk a) = true :=
    Spec.appliesLoose_calling (g := g) h hdg hn hkY hinitY
      (X.room_calling (g := g) (R' := (headSpec ws rm).room) hsize hmY hcY hframes (by rw [hlY]; omega) h4 h5) h1
  obtain ⟨mid, hmid⟩ := h.above
  have hfr : (U.setTop g).frames = (.java g :: mid) ++ below := by rw [State.frames_setTop' g h.top, hmid]; rfl
  obtain ⟨o, s₂, hsteps, -, hend, hq⟩ := Steps.callFree hM p X.admits X.cas X.clock (acts := []) hfr happ hPc trivial
  have hq' : vx_Q Qc XC mc ms free a (U.calling g mk a) o s₂ := hq
  rw [State.frames_setTop' g h.top] at hend
  obtain ⟨g₀, hg0⟩ := Option.isSome_iff_exists.mp h.top
  obtain ⟨r, hr⟩ := State.topJava?_eq_some.mp hg0
  have hr' : (({ U with heap := s₂.heap, slotsUsed := s₂.slotsUsed } : State).setVm s₂.vm).frames = .java g₀ :: r := hr
  rcases hq' with ⟨hqc, L, hfe, hL⟩ | ⟨q, rfl, E, ce, L, hx, hce, hcv, hcl, hW₂, hsm, hL⟩
  · obtain ⟨⟨v, rfl⟩, hW₂, e2, q2, q3, q4, q5, q6⟩ := id hfe
    have e3 : s₂ = ({ (U.calling g mk a).setFrames s₂.frames with heap := s₂.heap, slotsUsed := s₂.slotsUsed } : State).setVm s₂.vm := by
      have : s₂ = ({ s₂ with vm := (U.calling g mk a).vm } : State).setVm s₂.vm := rfl
      rw [e2] at this
      exact this
    obtain ⟨c₂, i₂, len₂, hc₂, hd₂, hf₂⟩ := hend
    have hW' : U.WarmedH s₂.vm := hW₂
    have hcc : c₂ = c := by
      have h1 : s₂.code? g.method = U.code? g.method := by
        rw [State.code?_eq, State.code?_eq, hW'.alike.method?]
      exact Option.some.inj (hc₂.symm.trans (h1.trans h.code))
    subst hcc
    have hlen : len₂ = len := by rw [hdg] at hd₂; cases hd₂; rfl
    subst hlen
    have hs₂ : s₂ = (({ U with heap := s₂.heap, slotsUsed := s₂.slotsUsed } : State).setVm s₂.vm).setTop { g with pc := g.pc + len₂, stack := v.toList ++ g.stack } := by
      refine e3.trans ?_
      rw [hf₂, State.calling_eq h.top, State.setFrames_setFrames, State.setTop_of_frames _ hr', hr]
      rfl
    have hsame : U.sameButNew ({ U with heap := s₂.heap, slotsUsed := s₂.slotsUsed } : State) L mc ms := by
      refine ⟨?_, q2, q3, q4, q5, q6⟩
      obtain ⟨t, ht, -⟩ := State.frames_cons hr
      show ({ U with heap := s₂.heap, slotsUsed := s₂.slotsUsed } : State) = { U.setFrames U.frames with heap := s₂.heap, slotsUsed := s₂.slotsUsed }
      rw [State.setFrames_self ht]
    subst hg
    refine Or.inl ⟨v, ⟨(({ U with heap := s₂.heap, slotsUsed := s₂.slotsUsed } : State).setVm s₂.vm), Ls ++ L, c0 + mc, s0 + ms⟩,
      ⟨X.admits, X.cas, X.clock, X.frames, X.room, X.hears, X.method, X.code, (X.here.setHeapUsed s₂.heap s₂.slotsUsed).setVm hW'.alike, X.tail, State.WarmedH.trans X.warmed hW', X.limits, X.bytes, X.same.trans (hsame.setVm s.vm)⟩,
      ⟨g, mk, s₂, L, rfl, rfl, hqc, rfl, hL, rfl, rfl⟩, ?_⟩
    show Steps p.tables e below _ ((({ U with heap := s₂.heap, slotsUsed := s₂.slotsUsed } : State).setVm s₂.vm).setTop { g with pc := g.pc + len₂, stack := v.toList ++ g.stack })
    rw [← hs₂]
    exact hsteps
  · obtain ⟨e2, q2, q3, q4, q5, q6⟩ := id hsm
    have e3 : s₂ = ({ (U.calling g mk a).setFrames s₂.frames with heap := s₂.heap, slotsUsed := s₂.slotsUsed } : State).setVm s₂.vm := by
      have : s₂ = ({ s₂ with vm := (U.calling g mk a).vm } : State).setVm s₂.vm := rfl
      rw [e2] at this
      exact this
    have hf₂ : s₂.frames = .throwing q :: .java g :: U.frames.tail := hend
    have hW' : U.WarmedH s₂.vm := hW₂
    have hs₂ : s₂ = ((({ U with heap := s₂.heap, slotsUsed := s₂.slotsUsed } : State).setVm s₂.vm).setTop g).pushFrame (.throwing q) := by
      refine e3.trans ?_
      rw [hf₂, State.calling_eq h.top, State.setFrames_setFrames, State.pushFrame, State.frames_setTop _ hr', State.setTop_of_frames _ hr', State.setFrames_setFrames, hr]
      rfl
    have hsame : U.sameButNew ({ U with heap := s₂.heap, slotsUsed := s₂.slotsUsed } : State) L mc ms := by
      refine ⟨?_, q2, q3, q4, q5, q6⟩
      obtain ⟨t, ht, -⟩ := State.frames_cons hr
      show ({ U with heap := s₂.heap, slotsUsed := s₂.slotsUsed } : State) = { U.setFrames U.frames with heap := s₂.heap, slotsUsed := s₂.slotsUsed }
      rw [State.setFrames_self ht]
    subst hg
    refine Or.inr ⟨q, ⟨(({ U with heap := s₂.heap, slotsUsed := s₂.slotsUsed } : State).setVm s₂.vm), Ls ++ L, c0 + mc, s0 + ms⟩,
      ⟨X.admits, X.cas, X.clock, X.frames, X.room, X.hears, X.method, X.code, (X.here.setHeapUsed s₂.heap s₂.slotsUsed).setVm hW'.alike, X.tail, State.WarmedH.trans X.warmed hW', X.limits, X.bytes, X.same.trans (hsame.setVm s.vm)⟩,
      ⟨g, mk, s₂, L, E, ce, rfl, rfl, hx, hce, hcv, hcl, rfl, hL, rfl, rfl⟩, ?_⟩
    show Steps p.tables e below _ (((({ U with heap := s₂.heap, slotsUsed := s₂.slotsUsed } : State).setVm s₂.vm).setTop g).pushFrame (.throwing q))
    rw [← hs₂]
    exact hsteps
end
variable {p : Program} {l : Launch} {e : Env} {R : Room} {s : State} {m : MethodId} {args : Array Value} {below : List Frame} {meth : Method} {c : Code} {T : State} {H : Heap} {locs : List Loc} {cells slots : Nat}
theorem vx_callVX (X : Stand p l e R s m args below meth c T locs cells slots) (hexec : p.tables.exec = Jvm.exec) {own C : String} {index : Nat} {y : MethodName} {bytes : ByteArray} {maxL : Nat} {ret : Option FieldType} {hh : List (Nat × Nat × Nat × Nat)}
    (hown : s.vm.findClass own = some m.cls) (hlink : (Cond.methodLink own index y).before args s = true) (hinst : (Cond.instanceMethod y).before args s = true) (hsel : (Cond.selects C y y).before args s = true)
    (hcode : (Cond.codeWith y bytes maxL ret hh).before args s = true) (hy : y.cls ≠ "java/lang/invoke/MethodHandle" ∧ y.cls ≠ "java/lang/invoke/VarHandle")
    {W9 : Nat} {Pre : Pt → Array Value → Prop} {Post : Pt → Array Value → Option Value → Pt → Prop} {PostX : Pt → Array Value → Addr → Pt → Prop} (hK : vx_Back l R p e below s args y 3 W9 Pre Post PostX)
    {b : Addr} {cellB : Cell} (hcell : T.heap[b]? = some cellB) (hobj : cellB.vm.isStatics = false) (hcls : s.vm.findClass C = some cellB.cls)
    {g : JFrame} (hg : g.method = m) (hsize : g.locals.size = c.maxLocals) {argsL rest : List Value} (hlen : ∀ sig, parseMethodDescriptor y.desc = some sig → argsL.length = sig.parameters.length)
    (hstack : g.stack = argsL.reverse ++ .ref b :: rest) (hW : 2 * g.monitorRoom + (rest.map fun v => v.category).sum ≤ W9) (hdg : decode c.code g.pc = .ok (.invokevirtual index, 3))
    (hpre : ∀ vm₁, s.WarmedH vm₁ → Pre ⟨T.setVm vm₁, locs, cells, slots⟩ (Value.ref b :: argsL).toArray) :
    (∃ (v : Option Value) (vm₁ : Vm) (B : Pt), s.WarmedH vm₁ ∧ Stand p l e R s m args below meth c B.U B.locs B.cells B.slots ∧ Post ⟨T.setVm vm₁, locs, cells, slots⟩ (Value.ref b :: argsL).toArray v B ∧
      ∀ target, Steps p.tables e below (B.U.setTop { g with pc := g.pc + 3, stack := v.toList ++ rest }) target → Steps p.tables e below (T.setTop g) target) ∨
    (∃ (q : Addr) (vm₁ : Vm) (B : Pt), s.WarmedH vm₁ ∧ Stand p l e R s m args below meth c B.U B.locs B.cells B.slots ∧ PostX ⟨T.setVm vm₁, locs, cells, slots⟩ (Value.ref b :: argsL).toArray q B ∧
      Steps p.tables e below (T.setTop g) ((B.U.setTop { g with stack := rest }).pushFrame (.throwing q))) := by
  obtain ⟨mk, methM, hnamed, hmethM, hstM, habM⟩ := Cond.instanceMethod_spec hinst
  obtain ⟨m8, methM', cM, hn8, hmethM', -, -, -, -, -, -, hsigM⟩ := Cond.codeWith_spec hcode
  cases Option.some.inj (hn8.symm.trans hnamed)
  cases hmethM.symm.trans hmethM'
  obtain ⟨c2, r2, m2, q1, q2, q3, q4, kP, hkP, hkPi⟩ := Cond.selects_spec hsel
  cases hcls.symm.trans q1
  cases (State.methodFound?_of_named hnamed hy).symm.trans q2
  cases hnamed.symm.trans q3
  have hselP : selectMethod e.platform s.vm cellB.cls mk = .method mk := by rw [Launch.admits_selectMethod X.admits]; exact q4
  obtain ⟨vm₁, X₁, hstep₁⟩ := X.invokevirtual hexec hown hlink hnamed hmethM hstM hkP hkPi hy (a := b) (cell := cellB) hcell
    (fun z h => by rw [h] at hobj; cases hobj) hselP hmethM habM hkP hkPi (g := g) hg (argsL := argsL) (rest := rest) (hlen _ hsigM) hstack hdg
  rcases hK m meth c ⟨T.setVm vm₁, locs, cells, slots⟩ { g with stack := rest } (.invokevirtual index) mk (Value.ref b :: argsL).toArray X₁ hg hsize hdg hW (X₁.named hnamed) (hpre vm₁ X₁.warmed) with ⟨v, B, X', hpost, hsteps⟩ | ⟨q, B, X', hpost, hsteps⟩
  · exact Or.inl ⟨v, vm₁, B, X₁.warmed, X', hpost, fun target h => hstep₁ _ fun acts => by rw [doInvoke_state]; exact hsteps.trans h⟩
  · exact Or.inr ⟨q, vm₁, B, X₁.warmed, X', hpost, hstep₁ _ fun acts => by rw [doInvoke_state]; exact hsteps⟩
theorem vx_callSX (X : Stand p l e R s m args below meth c T locs cells slots) (hexec : p.tables.exec = Jvm.exec) {own : String} {index : Nat} {y : MethodName} {bytes : ByteArray} {maxL : Nat} {ret : Option FieldType} {hh : List (Nat × Nat × Nat × Nat)}
    (hown : s.vm.findClass own = some m.cls) (hlink : (Cond.methodLink own index y).before args s = true) (hstat : (Cond.static y).before args s = true) (hinit : (Cond.initialized y.cls).before args s = true)
    (hcode : (Cond.codeWith y bytes maxL ret hh).before args s = true) (hy : y.cls ≠ "java/lang/invoke/MethodHandle" ∧ y.cls ≠ "java/lang/invoke/VarHandle")
    {W9 : Nat} {Pre : Pt → Array Value → Prop} {Post : Pt → Array Value → Option Value → Pt → Prop} {PostX : Pt → Array Value → Addr → Pt → Prop} (hK : vx_Back l R p e below s args y 3 W9 Pre Post PostX)
    {g : JFrame} (hg : g.method = m) (hsize : g.locals.size = c.maxLocals) {argsL rest : List Value} (hlen : ∀ sig, parseMethodDescriptor y.desc = some sig → argsL.length = sig.parameters.length)
    (hstack : g.stack = argsL.reverse ++ rest) (hW : 2 * g.monitorRoom + (rest.map fun v => v.category).sum ≤ W9) (hdg : decode c.code g.pc = .ok (.invokestatic index, 3))
    (hpre : ∀ vm₁, s.WarmedH vm₁ → Pre ⟨T.setVm vm₁, locs, cells, slots⟩ argsL.toArray) :
    (∃ (v : Option Value) (vm₁ : Vm) (B : Pt), s.WarmedH vm₁ ∧ Stand p l e R s m args below meth c B.U B.locs B.cells B.slots ∧ Post ⟨T.setVm vm₁, locs, cells, slots⟩ argsL.toArray v B ∧
      ∀ target, Steps p.tables e below (B.U.setTop { g with pc := g.pc + 3, stack := v.toList ++ rest }) target → Steps p.tables e below (T.setTop g) target) ∨
    (∃ (q : Addr) (vm₁ : Vm) (B : Pt), s.WarmedH vm₁ ∧ Stand p l e R s m args below meth c B.U B.locs B.cells B.slots ∧ PostX ⟨T.setVm vm₁, locs, cells, slots⟩ argsL.toArray q B ∧
      Steps p.tables e below (T.setTop g) ((B.U.setTop { g with stack := rest }).pushFrame (.throwing q))) := by
  obtain ⟨mk, methM, cM, hnamed, hmethM, -, -, -, -, -, -, hsigM⟩ := Cond.codeWith_spec hcode
  have hstatic : methM.isStatic = true := Cond.static_spec hnamed hmethM hstat
  obtain ⟨kP, hkP, -⟩ := className_of_methodNamed hnamed
  have hinitP : kP.init = .initialized := Cond.initialized_spec (findClass_of_methodNamed hnamed) hkP hinit
  obtain ⟨vm₁, X₁, hstep₁⟩ := X.invokestatic hexec hown hlink hnamed hmethM hstatic hkP hinitP hy (g := g) hg (argsL := argsL) (rest := rest) (hlen _ hsigM) hstack hdg
  rcases hK m meth c ⟨T.setVm vm₁, locs, cells, slots⟩ { g with stack := rest } (.invokestatic index) mk argsL.toArray X₁ hg hsize hdg hW (X₁.named hnamed) (hpre vm₁ X₁.warmed) with ⟨v, B, X', hpost, hsteps⟩ | ⟨q, B, X', hpost, hsteps⟩
  · exact Or.inl ⟨v, vm₁, B, X₁.warmed, X', hpost, fun target h => hstep₁ _ fun acts => by rw [doInvoke_state]; exact hsteps.trans h⟩
  · exact Or.inr ⟨q, vm₁, B, X₁.warmed, X', hpost, hstep₁ _ fun acts => by rw [doInvoke_state]; exact hsteps⟩
theorem vx_callVW (X : Stand p l e R s m args below meth c T locs cells slots) (hexec : p.tables.exec = Jvm.exec) {own C : String} {index : Nat} {y : MethodName} {bytes : ByteArray} {maxL : Nat} {ret : Option FieldType} {hh : List (Nat × Nat × Nat × Nat)}
    (hown : s.vm.findClass own = some m.cls) (hlink : (Cond.methodLink own index y).before args s = true) (hinst : (Cond.instanceMethod y).before args s = true) (hsel : (Cond.selects C y y).before args s = true)
    (hcode : (Cond.codeWith y bytes maxL ret hh).before args s = true) (hy : y.cls ≠ "java/lang/invoke/MethodHandle" ∧ y.cls ≠ "java/lang/invoke/VarHandle")
    {W9 : Nat} {Pre : Pt → Array Value → Prop} {Post : Pt → Array Value → Option Value → Pt → Prop} (hK : Back l R p e below s args y 3 W9 Pre Post)
    {b : Addr} {cellB : Cell} (hcell : T.heap[b]? = some cellB) (hobj : cellB.vm.isStatics = false) (hcls : s.vm.findClass C = some cellB.cls)
    {g : JFrame} (hg : g.method = m) (hsize : g.locals.size = c.maxLocals) {argsL rest : List Value} (hlen : ∀ sig, parseMethodDescriptor y.desc = some sig → argsL.length = sig.parameters.length)
    (hstack : g.stack = argsL.reverse ++ .ref b :: rest) (hW : 2 * g.monitorRoom + (rest.map fun v => v.category).sum ≤ W9) (hdg : decode c.code g.pc = .ok (.invokevirtual index, 3))
    (hpre : ∀ vm₁, s.WarmedH vm₁ → Pre ⟨T.setVm vm₁, locs, cells, slots⟩ (Value.ref b :: argsL).toArray) :
    ∃ (v : Option Value) (vm₁ : Vm) (B : Pt), s.WarmedH vm₁ ∧ Stand p l e R s m args below meth c B.U B.locs B.cells B.slots ∧ Post ⟨T.setVm vm₁, locs, cells, slots⟩ (Value.ref b :: argsL).toArray v B ∧
      ∀ target, Steps p.tables e below (B.U.setTop { g with pc := g.pc + 3, stack := v.toList ++ rest }) target → Steps p.tables e below (T.setTop g) target := by
  obtain ⟨mk, methM, hnamed, hmethM, hstM, habM⟩ := Cond.instanceMethod_spec hinst
  obtain ⟨m8, methM', cM, hn8, hmethM', -, -, -, -, -, -, hsigM⟩ := Cond.codeWith_spec hcode
  cases Option.some.inj (hn8.symm.trans hnamed)
  cases hmethM.symm.trans hmethM'
  obtain ⟨c2, r2, m2, q1, q2, q3, q4, kP, hkP, hkPi⟩ := Cond.selects_spec hsel
  cases hcls.symm.trans q1
  cases (State.methodFound?_of_named hnamed hy).symm.trans q2
  cases hnamed.symm.trans q3
  have hselP : selectMethod e.platform s.vm cellB.cls mk = .method mk := by rw [Launch.admits_selectMethod X.admits]; exact q4
  obtain ⟨vm₁, X₁, hstep₁⟩ := X.invokevirtual hexec hown hlink hnamed hmethM hstM hkP hkPi hy (a := b) (cell := cellB) hcell
    (fun z h => by rw [h] at hobj; cases hobj) hselP hmethM habM hkP hkPi (g := g) hg (argsL := argsL) (rest := rest) (hlen _ hsigM) hstack hdg
  obtain ⟨v, B, X', hpost, hsteps⟩ := hK m meth c ⟨T.setVm vm₁, locs, cells, slots⟩ { g with stack := rest } (.invokevirtual index) mk (Value.ref b :: argsL).toArray X₁ hg hsize hdg hW (X₁.named hnamed) (hpre vm₁ X₁.warmed)
  exact ⟨v, vm₁, B, X₁.warmed, X', hpost, fun target h => hstep₁ _ fun acts => by rw [doInvoke_state]; exact hsteps.trans h⟩
abbrev vx_CVW (R : Room) (s : State) (args : Array Value) (own C : String) (index : Nat) (y : MethodName) (bytes : ByteArray) (maxL : Nat) (ret : Option FieldType) (hh : List (Nat × Nat × Nat × Nat)) (ws : List Cond) (rm : Room) (mc ms n : Nat) : Prop :=
  (rm.cells = mc ∧ rm.slots = ms ∧ rm.frames + 1 ≤ R.frames ∧ 8 + (maxL + 11) + rm.locals ≤ R.locals ∧ (∀ w ∈ ws, ∀ (a' : Array Value) (U : State), s.WarmedH U.vm → w.before a' U = true) ∧ Cond.codeWith y bytes maxL ret hh ∈ ws) ∧
  (Cond.codeWith y bytes maxL ret hh).before args s = true ∧ (Cond.initialized y.cls).before args s = true ∧ (y.cls ≠ "java/lang/invoke/MethodHandle" ∧ y.cls ≠ "java/lang/invoke/VarHandle") ∧
  (∀ sig, parseMethodDescriptor y.desc = some sig → n = sig.parameters.length) ∧ (Cond.methodLink own index y).before args s = true ∧ (Cond.instanceMethod y).before args s = true ∧ (Cond.selects C y y).before args s = true
theorem vx_cwVW {own C : String} {index maxL mc ms : Nat} {y : MethodName} {bytes : ByteArray} {ret : Option FieldType} {hh : List (Nat × Nat × Nat × Nat)} {Ts ws ws' : List Cond} {rm : Room} (n : Nat) (ht : ∀ w ∈ Ts, w.before args s = true) (hT : GoodIn Ts (wsV own index C y ws)) (hw : ws = Cond.codeWith y bytes maxL ret hh :: ws') (hrc : rm.cells = mc) (hrs : rm.slots = ms)
    (hd : y.cls = C ∧ y.cls ≠ "java/lang/invoke/MethodHandle" ∧ y.cls ≠ "java/lang/invoke/VarHandle" ∧ (parseMethodDescriptor y.desc).map (fun d => d.parameters.length) = some n) (hR : rm.frames + 1 ≤ R.frames ∧ 8 + (maxL + 11) + rm.locals ≤ R.locals) :
    vx_CVW R s args own C index y bytes maxL ret hh ws rm mc ms n := by
  obtain ⟨hC, hd⟩ := hd
  subst hC
  have ok : ∀ w ∈ wsV own index y.cls y ws, w.before args s = true := fun w h => ht w (hT w h).1
  have hG : GoodIn Ts ws := fun w h => hT w (by unfold wsV; exact List.mem_append_right _ h)
  have hc : Cond.codeWith y bytes maxL ret hh ∈ ws := by rw [hw]; exact List.mem_cons_self
  refine ⟨⟨hrc, hrs, hR.1, hR.2, pay_in ht hG, hc⟩, ht _ (hG _ hc).1, ok _ (by simp [wsV]), ⟨hd.1, hd.2.1⟩, fun sig h => ?_, ok _ (by simp [wsV]), ok _ (by simp [wsV]), ok _ (by simp [wsV])⟩
  have h2 := hd.2.2
  rw [h] at h2
  exact (Option.some.inj h2).symm
theorem vx_runVW {y : MethodName} {bytes cc : ByteArray} {maxL nL mc ms n index : Nat} {ret : Option FieldType} {hh : List (Nat × Nat × Nat × Nat)} {ws : List Cond} {rm : Room} {Pc : Array Value → State → Prop} {Qc : Array Value → State → Outcome → State → Prop} {free : Addr → Prop} {Ts : List Cond} {own C : String} {b : Addr} {As rest : List Value} {g : JFrame}
    (S : CallFix p m c cc nL s args Ts own) (hM : Met l y ws rm Pc Qc mc ms free) (cw : vx_CVW R s args own C index y bytes maxL ret hh ws rm mc ms n) (hp : PreV s H C b Pc As)
    (hg : g.method = m) (hn : As.length = n) (hsize : g.locals.size = nL) (hstack : g.stack = As.reverse ++ .ref b :: rest) (hW : 2 * g.monitorRoom + (rest.map fun v => v.category).sum ≤ 8) (hdg : decode cc g.pc = .ok (.invokevirtual index, 3)) (hf : cells + mc ≤ R.cells ∧ slots + ms ≤ R.slots) :
    va_Run p l e R s m args below meth c H locs cells slots mc ms g rest (Qc (Value.ref b :: As).toArray) free := by
  obtain ⟨⟨hrc, hrs, hfr, hlo, hws, hcw⟩, hcode, hini, hy, hlen, hl, hin, hse⟩ := cw
  have hK : Back l R p e below s args y 3 8 (PreOf R mc ms Pc) (PostOf Qc mc ms free) := va_backW (hh := hh) (bytes := bytes) (maxL := maxL) (ret := ret) hM hp.1 hrc hrs hfr hlo hws hcw (fun a' U hW => word_at hW (Or.inl (by first | rfl | simp [Cond.onTables, Cond.keeps, Cond.steady])) hini)
  obtain ⟨hx, hb, hml, ho, -⟩ := S
  obtain ⟨-, ⟨cellB, hcB, hoB, hclB⟩, hPc⟩ := hp
  intro T hT X
  obtain ⟨v, vm₁, ⟨U', l2, c2, s2⟩, hW₁, X', ⟨g', mk, t, L, e1, e2, hq, h1, hL, h2, h3⟩, st⟩ := vx_callVW X hx (C := C) (hh := hh) (bytes := bytes) (maxL := maxL) (ret := ret) ho hl hin hse hcode hy hK (by rw [hT]; exact hcB) hoB hclB hg (hsize.trans hml.symm) (argsL := As) (rest := rest) (fun sig h => hn.trans (hlen sig h)) hstack hW (by rw [hb]; exact hdg)
    (fun vm₁ hW₁ => ⟨hf.1, hf.2, hPc (T.setVm vm₁) hT hW₁⟩)
  dsimp only [Pt.U, Pt.locs, Pt.cells, Pt.slots] at X' e1 e2 h1 h2 h3 st
  subst h1; subst h2; subst h3
  exact ⟨v, (T.setVm vm₁).calling g' mk (Value.ref b :: As).toArray, t, U', L, hT, X', hL, e1, e2, hq, st⟩
section
variable {y : MethodName} {bytes cc : ByteArray} {maxL nL mc ms n index : Nat} {ret : Option FieldType} {ws : List Cond} {rm : Room} {Pc : Array Value → State → Prop} {Qc : Array Value → State → Outcome → State → Prop} {XC : String → State → State → Prop} {free : Addr → Prop} {Ts : List Cond} {own C : String} {b : Addr} {As rest : List Value} {g : JFrame}
theorem vx_runVX {hh : List (Nat × Nat × Nat × Nat)} (S : CallFix p m c cc nL s args Ts own) (hM : vx_Met l y ws rm Pc Qc XC mc ms free) (cw : vx_CVW R s args own C index y bytes maxL ret hh ws rm mc ms n) (hp : PreV s H C b Pc As)
    (hg : g.method = m) (hn : As.length = n) (hsize : g.locals.size = nL) (hstack : g.stack = As.reverse ++ .ref b :: rest) (hW : 2 * g.monitorRoom + (rest.map fun v => v.category).sum ≤ 8) (hdg : decode cc g.pc = .ok (.invokevirtual index, 3)) (hf : cells + mc ≤ R.cells ∧ slots + ms ≤ R.slots) :
    vx_Run p l e R s m args below meth c H locs cells slots mc ms g rest (Qc (Value.ref b :: As).toArray) XC free := by
  obtain ⟨⟨hrc, hrs, hfr, hlo, hws, hcw⟩, hcode, hini, hy, hlen, hl, hin, hse⟩ := cw
  have hK : vx_Back l R p e below s args y 3 8 (PreOf R mc ms Pc) (PostOf Qc mc ms free) (vx_Post XC mc ms free) := vx_backW (hh := hh) (bytes := bytes) (maxL := maxL) (ret := ret) hM hp.1 hrc hrs hfr hlo hws hcw (fun a' U hW => word_at hW (Or.inl (by first | rfl | simp [Cond.onTables, Cond.keeps, Cond.steady])) hini)
  obtain ⟨hx, hb, hml, ho, -⟩ := S
  obtain ⟨-, ⟨cellB, hcB, hoB, hclB⟩, hPc⟩ := hp
  intro T hT X
  rcases vx_callVX X hx (C := C) (hh := hh) (bytes := bytes) (maxL := maxL) (ret := ret) ho hl hin hse hcode hy hK (by rw [hT]; exact hcB) hoB hclB hg (hsize.trans hml.symm) (argsL := As) (rest := rest) (fun sig h => hn.trans (hlen sig h)) hstack hW (by rw [hb]; exact hdg)
    (fun vm₁ hW₁ => ⟨hf.1, hf.2, hPc (T.setVm vm₁) hT hW₁⟩) with ⟨v, vm₁, ⟨U', l2, c2, s2⟩, hW₁, X', ⟨g', mk, t, L, e1, e2, hq, h1, hL, h2, h3⟩, st⟩ | ⟨q, vm₁, ⟨U', l2, c2, s2⟩, hW₁, X', ⟨g', mk, t, L, E, ce, e1, e2, hq, hce, hcv, hcl, h1, hL, h2, h3⟩, st⟩
  · dsimp only [Pt.U, Pt.locs, Pt.cells, Pt.slots] at X' e1 e2 h1 h2 h3 st
    subst h1; subst h2; subst h3
    exact Or.inl ⟨v, (T.setVm vm₁).calling g' mk (Value.ref b :: As).toArray, t, U', L, hT, X', hL, e1, e2, hq, st⟩
  · dsimp only [Pt.U, Pt.locs, Pt.cells, Pt.slots] at X' e1 e2 h1 h2 h3 st hcl
    subst h1; subst h2; subst h3
    exact Or.inr ⟨q, (T.setVm vm₁).calling g' mk (Value.ref b :: As).toArray, t, U', L, E, ce, hT, X', hL, e1, e2, hq, hce, hcv, vx_cls hW₁ hcl, st⟩
theorem vx_runSX {hh : List (Nat × Nat × Nat × Nat)} (S : CallFix p m c cc nL s args Ts own) (hM : vx_Met l y ws rm Pc Qc XC mc ms free) (cw : vx_CSW R s args own index y bytes maxL ret hh ws rm mc ms n) (hp : PreS s H Pc As)
    (hg : g.method = m) (hn : As.length = n) (hsize : g.locals.size = nL) (hstack : g.stack = As.reverse ++ rest) (hW : 2 * g.monitorRoom + (rest.map fun v => v.category).sum ≤ 8) (hdg : decode cc g.pc = .ok (.invokestatic index, 3)) (hf : cells + mc ≤ R.cells ∧ slots + ms ≤ R.slots) :
    vx_Run p l e R s m args below meth c H locs cells slots mc ms g rest (Qc As.toArray) XC free := by
  obtain ⟨⟨hrc, hrs, hfr, hlo, hws, hcw⟩, hcode, hini, hy, hlen, hl, hstt⟩ := cw
  have hK : vx_Back l R p e below s args y 3 8 (PreOf R mc ms Pc) (PostOf Qc mc ms free) (vx_Post XC mc ms free) := vx_backW (hh := hh) (bytes := bytes) (maxL := maxL) (ret := ret) hM hp.1 hrc hrs hfr hlo hws hcw (fun a' U hW => word_at hW (Or.inl (by first | rfl | simp [Cond.onTables, Cond.keeps, Cond.steady])) hini)
  obtain ⟨hx, hb, hml, ho, -⟩ := S
  intro T hT X
  rcases vx_callSX X hx (hh := hh) (bytes := bytes) (maxL := maxL) (ret := ret) ho hl hstt hini hcode hy hK hg (hsize.trans hml.symm) (argsL := As) (rest := rest) (fun sig h => hn.trans (hlen sig h)) hstack hW (by rw [hb]; exact hdg)
    (fun vm₁ hW₁ => ⟨hf.1, hf.2, hp.2 (T.setVm vm₁) hT hW₁⟩) with ⟨v, vm₁, ⟨U', l2, c2, s2⟩, hW₁, X', ⟨g', mk, t, L, e1, e2, hq, h1, hL, h2, h3⟩, st⟩ | ⟨q, vm₁, ⟨U', l2, c2, s2⟩, hW₁, X', ⟨g', mk, t, L, E, ce, e1, e2, hq, hce, hcv, hcl, h1, hL, h2, h3⟩, st⟩
  · dsimp only [Pt.U, Pt.locs, Pt.cells, Pt.slots] at X' e1 e2 h1 h2 h3 st
    subst h1; subst h2; subst h3
    exact Or.inl ⟨v, (T.setVm vm₁).calling g' mk As.toArray, t, U', L, hT, X', hL, e1, e2, hq, st⟩
  · dsimp only [Pt.U, Pt.locs, Pt.cells, Pt.slots] at X' e1 e2 h1 h2 h3 st hcl
    subst h1; subst h2; subst h3
    exact Or.inr ⟨q, (T.setVm vm₁).calling g' mk As.toArray, t, U', L, E, ce, hT, X', hL, e1, e2, hq, hce, hcv, vx_cls hW₁ hcl, st⟩
end
end VXH
theorem vx_ofWH {l : Launch} {y : MethodName} {ws ws' : List Cond} {rm : Room} {Pc : Array Value → State → Prop} {Qc : Array Value → State → Outcome → State → Prop} {XC : String → State → State → Prop} {mc ms : Nat} {free : Addr → Prop} {cc : ByteArray} {maxL : Nat} {ret : Option FieldType} {hh : List (Nat × Nat × Nat × Nat)}
    (hy : plainName y.cls = true) (hw : ws = Cond.codeWith y cc maxL ret hh :: ws')
    (body : ∀ p e s m args below meth c s₁, BodyLoose p l y (headSpec ws rm) cc maxL ret e s m args below meth c s₁ → c.maxLocals = maxL → Pc args s →
      W p l e (headSpec ws rm).room s m args below meth c s.heap [] 0 0 (vx_MQ below Qc XC args s mc ms free) (entryFrame m args maxL)) : vx_Met l y ws rm Pc Qc XC mc ms free := by
  refine MetFree.of_bodyS (code := cc) (maxLocals := maxL) (ret := ret) hy ?_ ?_
  · intro args s m h hn
    obtain ⟨m9, meth, c, hn9, h1, h2, h3, h4, -, h5, h6, -⟩ := Cond.codeWith_spec (atoms_spec (ws := ws) h _ (by rw [hw]; exact List.mem_cons_self))
    cases hn.symm.trans hn9
    exact ⟨meth, c, h1, h2, h3, h4, h5, h6⟩
  · intro p e s m args below meth c s₁ B hml hP _
    have hh0 : s₁.heap = s.heap := by rw [B.state]; rfl
    obtain ⟨t, a1, o, b1, b2, b3⟩ := body p e s m args below meth c s₁ B hml hP s₁ hh0 (Stand.of_body B)
    exact ⟨t, o, a1, b1, b2, b3⟩
/-! ===== END ===== -/

/-! ===== BEGIN printed: names, fields, word lists, decode rows ===== -/
def RX0 : String := "LastsToNext$Draws"
def TX0 : u_T := fun k => match k with
  | _ => ("LastsToNext$Draws", "seed", "I", false)
def tyX0 : Nat → FieldType := fun k => match k with
  | _ => .int
abbrev wsX00 : List Cond := u_ws RX0 TX0 1
theorem nmX0 : ∀ a, a < 1 → ∀ b, b < 1 → a ≠ b → (TX0 a).2.1 ≠ (TX0 b).2.1 := by decide +kernel
theorem tyX0_ok : ∀ k, k < 1 → parseFieldDescriptor (TX0 k).2.2.1 = some (tyX0 k) := by decide +kernel
abbrev cX0_init : ByteArray := prog_2_method_1_code
def yX0_init : MethodName := ⟨RX0, "<init>", "()V"⟩
abbrev cX0_next : ByteArray := prog_2_method_2_code
def yX0_next : MethodName := ⟨RX0, "next", "()I"⟩
abbrev cX0_priceSeen : ByteArray := prog_2_method_3_code
def yX0_priceSeen : MethodName := ⟨RX0, "priceSeen", "(LLastsToNext$Road;I)I"⟩
def RX1 : String := "LastsToNext$Drivers"
def TX1 : u_T := fun k => match k with
  | 0 => ("LastsToNext$Drivers", "stuckStation", "I", false)
  | 1 => ("LastsToNext$Drivers", "draws", "LLastsToNext$Draws;", true)
  | 2 => ("LastsToNext$Drivers", "ahead", "[J", true)
  | 3 => ("LastsToNext$Drivers", "choice", "[I", true)
  | 4 => ("LastsToNext$Drivers", "dearChoice", "[I", true)
  | _ => ("LastsToNext$Drivers", "scale", "J", false)
def tyX1 : Nat → FieldType := fun k => match k with
  | 0 => .int
  | 1 => .object "LastsToNext$Draws"
  | 2 => .array .long
  | 3 => .array .int
  | 4 => .array .int
  | _ => .long
abbrev wsX10 : List Cond := u_ws RX1 TX1 6
theorem nmX1 : ∀ a, a < 6 → ∀ b, b < 6 → a ≠ b → (TX1 a).2.1 ≠ (TX1 b).2.1 := by decide +kernel
theorem tyX1_ok : ∀ k, k < 6 → parseFieldDescriptor (TX1 k).2.2.1 = some (tyX1 k) := by decide +kernel
abbrev cX1_init : ByteArray := prog_3_method_1_code
def yX1_init : MethodName := ⟨RX1, "<init>", "()V"⟩
abbrev cX1_pintsByRule : ByteArray := prog_3_method_2_code
def yX1_pintsByRule : MethodName := ⟨RX1, "pintsByRule", "(LLastsToNext$Road;IIII)I"⟩
abbrev cX1_pintsTo : ByteArray := prog_3_method_3_code
def yX1_pintsTo : MethodName := ⟨RX1, "pintsTo", "(LLastsToNext$Road;III)I"⟩
abbrev cX1_nextCheaper : ByteArray := prog_3_method_4_code
def yX1_nextCheaper : MethodName := ⟨RX1, "nextCheape\x72", "(LLastsToNext$Road;II)I"⟩
abbrev cX1_nextPump : ByteArray := prog_3_method_5_code
def yX1_nextPump : MethodName := ⟨RX1, "nextPump", "(LLastsToNext$Road;I)I"⟩
abbrev cX1_travelOpen : ByteArray := prog_3_method_6_code
def yX1_travelOpen : MethodName := ⟨RX1, "travelOpen", "(LLastsToNext$Road;I)I"⟩
abbrev cX1_travelDrawn : ByteArray := prog_3_method_7_code
def yX1_travelDrawn : MethodName := ⟨RX1, "travelDrawn", "(LLastsToNext$Road;II)I"⟩
abbrev cX1_travel : ByteArray := prog_3_method_8_code
def yX1_travel : MethodName := ⟨RX1, "travel", "(LLastsToNext$Road;IZ)I"⟩
abbrev cX1_reckonMean : ByteArray := prog_3_method_9_code
def yX1_reckonMean : MethodName := ⟨RX1, "reckonMean", "(LLastsToNext$Road;ILLastsToNext$Fraction;)V"⟩
abbrev cX1_reckonOdds : ByteArray := prog_3_method_10_code
def yX1_reckonOdds : MethodName := ⟨RX1, "reckonOdds", "(LLastsToNext$Road;ILLastsToNext$Fraction;)V"⟩
abbrev cX1_ruleOfLeastMean : ByteArray := prog_3_method_11_code
def yX1_ruleOfLeastMean : MethodName := ⟨RX1, "ruleOfLeastMean", "(LLastsToNext$Road;)I"⟩
abbrev cX1_bestPints : ByteArray := prog_3_method_12_code
def yX1_bestPints : MethodName := ⟨RX1, "bestPints", "(LLastsToNext$Road;III)I"⟩
abbrev cX1_lookDownTo : ByteArray := prog_3_method_13_code
def yX1_lookDownTo : MethodName := ⟨RX1, "lookDownTo", "(LLastsToNext$Road;IZI)V"⟩
abbrev cX1_leaveStation : ByteArray := prog_3_method_14_code
def yX1_leaveStation : MethodName := ⟨RX1, "leaveStation", "(LLastsToNext$Road;IZ)V"⟩
abbrev cX1_meetPump : ByteArray := prog_3_method_15_code
def yX1_meetPump : MethodName := ⟨RX1, "meetPump", "(LLastsToNext$Road;IIJ)V"⟩
abbrev cX1_chooseAll : ByteArray := prog_3_method_16_code
def yX1_chooseAll : MethodName := ⟨RX1, "chooseAll", "(LLastsToNext$Road;IIIJ[I)V"⟩
def RX2 : String := "LastsToNext$Fraction"
def TX2 : u_T := fun k => match k with
  | 0 => ("LastsToNext$Fraction", "uppe\x72", "J", false)
  | _ => ("LastsToNext$Fraction", "lowe\x72", "J", false)
def tyX2 : Nat → FieldType := fun k => match k with
  | 0 => .long
  | _ => .long
abbrev wsX20 : List Cond := u_ws RX2 TX2 2
theorem nmX2 : ∀ a, a < 2 → ∀ b, b < 2 → a ≠ b → (TX2 a).2.1 ≠ (TX2 b).2.1 := by decide +kernel
theorem tyX2_ok : ∀ k, k < 2 → parseFieldDescriptor (TX2 k).2.2.1 = some (tyX2 k) := by decide +kernel
abbrev cX2_init : ByteArray := prog_4_method_1_code
def yX2_init : MethodName := ⟨RX2, "<init>", "()V"⟩
abbrev cX2_become : ByteArray := prog_4_method_2_code
def yX2_become : MethodName := ⟨RX2, "become", "(JJ)V"⟩
abbrev cX2_plus : ByteArray := prog_4_method_3_code
def yX2_plus : MethodName := ⟨RX2, "plus", "(JJ)V"⟩
abbrev cX2_commonDivisor : ByteArray := prog_4_method_4_code
def yX2_commonDivisor : MethodName := ⟨RX2, "commonDiviso\x72", "(JJ)J"⟩
def RX3 : String := "LastsToNext$Journey"
def TX3 : u_T := fun k => match k with
  | 0 => ("LastsToNext$Journey", "now", "[I", true)
  | 1 => ("LastsToNext$Journey", "undoable", "I", false)
  | 2 => ("LastsToNext$Journey", "pictured", "I", false)
  | 3 => ("LastsToNext$Journey", "latest", "I", false)
  | 4 => ("LastsToNext$Journey", "kept", "[[I", true)
  | 5 => ("LastsToNext$Journey", "images", "[[I", true)
  | _ => ("LastsToNext$Journey", "draws", "LLastsToNext$Draws;", true)
def tyX3 : Nat → FieldType := fun k => match k with
  | 0 => .array .int
  | 1 => .int
  | 2 => .int
  | 3 => .int
  | 4 => .array (.array .int)
  | 5 => .array (.array .int)
  | _ => .object "LastsToNext$Draws"
abbrev wsX30 : List Cond := u_ws RX3 TX3 7
theorem nmX3 : ∀ a, a < 7 → ∀ b, b < 7 → a ≠ b → (TX3 a).2.1 ≠ (TX3 b).2.1 := by decide +kernel
theorem tyX3_ok : ∀ k, k < 7 → parseFieldDescriptor (TX3 k).2.2.1 = some (tyX3 k) := by decide +kernel
abbrev cX3_init : ByteArray := prog_5_method_1_code
def yX3_init : MethodName := ⟨RX3, "<init>", "()V"⟩
abbrev cX3_begin : ByteArray := prog_5_method_2_code
def yX3_begin : MethodName := ⟨RX3, "begin", "(LLastsToNext$Road;)V"⟩
abbrev cX3_seePump : ByteArray := prog_5_method_3_code
def yX3_seePump : MethodName := ⟨RX3, "seePump", "(LLastsToNext$Road;)V"⟩
abbrev cX3_keep : ByteArray := prog_5_method_4_code
def yX3_keep : MethodName := ⟨RX3, "keep", "()V"⟩
abbrev cX3_takeIn : ByteArray := prog_5_method_5_code
def yX3_takeIn : MethodName := ⟨RX3, "takeIn", "(LLastsToNext$Road;I)V"⟩
abbrev cX3_canGo : ByteArray := prog_5_method_6_code
def yX3_canGo : MethodName := ⟨RX3, "canGo", "(LLastsToNext$Road;I)Z"⟩
abbrev cX3_goTo : ByteArray := prog_5_method_7_code
def yX3_goTo : MethodName := ⟨RX3, "goTo", "(LLastsToNext$Road;I)V"⟩
abbrev cX3_stay : ByteArray := prog_5_method_8_code
def yX3_stay : MethodName := ⟨RX3, "stay", "(LLastsToNext$Road;)V"⟩
abbrev cX3_takeBack : ByteArray := prog_5_method_9_code
def yX3_takeBack : MethodName := ⟨RX3, "takeBack", "()V"⟩
abbrev cX3_picture : ByteArray := prog_5_method_10_code
def yX3_picture : MethodName := ⟨RX3, "picture", "()I"⟩
abbrev cX3_returnTo : ByteArray := prog_5_method_11_code
def yX3_returnTo : MethodName := ⟨RX3, "returnTo", "(I)V"⟩
abbrev cX3_openPlace : ByteArray := prog_5_method_12_code
def yX3_openPlace : MethodName := ⟨RX3, "openPlace", "(LLastsToNext$Road;I)I"⟩
def RX4 : String := "LastsToNext$Levels"
def TX4 : u_T := fun k => match k with
  | _ => ("", "", "", false)
def tyX4 : Nat → FieldType := fun k => match k with
  | _ => .int
abbrev wsX40 : List Cond := u_ws RX4 TX4 0
theorem nmX4 : ∀ a, a < 0 → ∀ b, b < 0 → a ≠ b → (TX4 a).2.1 ≠ (TX4 b).2.1 := by decide +kernel
theorem tyX4_ok : ∀ k, k < 0 → parseFieldDescriptor (TX4 k).2.2.1 = some (tyX4 k) := by decide +kernel
abbrev cX4_leave : ByteArray := prog_6_method_2_code
def yX4_leave : MethodName := ⟨RX4, "leave", "([JIIJ)V"⟩
abbrev cX4_choose : ByteArray := prog_6_method_3_code
def yX4_choose : MethodName := ⟨RX4, "choose", "([JIJJ[I)V"⟩
abbrev cX4_spend : ByteArray := prog_6_method_4_code
def yX4_spend : MethodName := ⟨RX4, "spend", "([JIIJJ)J"⟩
def RX5 : String := "LastsToNext$Net"
def TX5 : u_T := fun k => match k with
  | 0 => ("LastsToNext$Net", "coming", "[[I", true)
  | 1 => ("LastsToNext$Net", "going", "[I", true)
  | _ => ("LastsToNext$Net", "level", "[I", true)
def tyX5 : Nat → FieldType := fun k => match k with
  | 0 => .array (.array .int)
  | 1 => .array .int
  | _ => .array .int
abbrev wsX50 : List Cond := u_ws RX5 TX5 3
theorem nmX5 : ∀ a, a < 3 → ∀ b, b < 3 → a ≠ b → (TX5 a).2.1 ≠ (TX5 b).2.1 := by decide +kernel
theorem tyX5_ok : ∀ k, k < 3 → parseFieldDescriptor (TX5 k).2.2.1 = some (tyX5 k) := by decide +kernel
abbrev cX5_init : ByteArray := prog_7_method_1_code
def yX5_init : MethodName := ⟨RX5, "<init>", "()V"⟩
abbrev cX5_least : ByteArray := prog_7_method_2_code
def yX5_least : MethodName := ⟨RX5, "least", "(LLastsToNext$Road;Z)I"⟩
abbrev cX5_stopAt : ByteArray := prog_7_method_3_code
def yX5_stopAt : MethodName := ⟨RX5, "stopAt", "(LLastsToNext$Road;IZ)V"⟩
abbrev cX5_goOn : ByteArray := prog_7_method_4_code
def yX5_goOn : MethodName := ⟨RX5, "goOn", "(LLastsToNext$Road;IZ)Z"⟩
abbrev cX5_goAlong : ByteArray := prog_7_method_5_code
def yX5_goAlong : MethodName := ⟨RX5, "goAlong", "(LLastsToNext$Road;III)Z"⟩
abbrev cX5_mostPints : ByteArray := prog_7_method_6_code
def yX5_mostPints : MethodName := ⟨RX5, "mostPints", "(LLastsToNext$Road;I)I"⟩
abbrev cX5_fillNext : ByteArray := prog_7_method_7_code
def yX5_fillNext : MethodName := ⟨RX5, "fillNext", "(LLastsToNext$Road;I)Z"⟩
abbrev cX5_nearest : ByteArray := prog_7_method_8_code
def yX5_nearest : MethodName := ⟨RX5, "nearest", "(LLastsToNext$Road;II)I"⟩
abbrev cX5_nearNext : ByteArray := prog_7_method_9_code
def yX5_nearNext : MethodName := ⟨RX5, "nearNext", "(LLastsToNext$Road;I)V"⟩
def RX6 : String := "LastsToNext$Plans"
def TX6 : u_T := fun k => match k with
  | 0 => ("LastsToNext$Plans", "planned", "[I", true)
  | 1 => ("LastsToNext$Plans", "ahead", "[J", true)
  | 2 => ("LastsToNext$Plans", "choices", "[[I", true)
  | _ => ("LastsToNext$Plans", "byStops", "[[J", true)
def tyX6 : Nat → FieldType := fun k => match k with
  | 0 => .array .int
  | 1 => .array .long
  | 2 => .array (.array .int)
  | _ => .array (.array .long)
abbrev wsX60 : List Cond := u_ws RX6 TX6 4
theorem nmX6 : ∀ a, a < 4 → ∀ b, b < 4 → a ≠ b → (TX6 a).2.1 ≠ (TX6 b).2.1 := by decide +kernel
theorem tyX6_ok : ∀ k, k < 4 → parseFieldDescriptor (TX6 k).2.2.1 = some (tyX6 k) := by decide +kernel
abbrev cX6_init : ByteArray := prog_8_method_1_code
def yX6_init : MethodName := ⟨RX6, "<init>", "()V"⟩
abbrev cX6_forget : ByteArray := prog_8_method_2_code
def yX6_forget : MethodName := ⟨RX6, "forget", "()V"⟩
abbrev cX6_failsAt : ByteArray := prog_8_method_3_code
def yX6_failsAt : MethodName := ⟨RX6, "failsAt", "(LLastsToNext$Road;)I"⟩
abbrev cX6_pence : ByteArray := prog_8_method_4_code
def yX6_pence : MethodName := ⟨RX6, "pence", "(LLastsToNext$Road;)I"⟩
abbrev cX6_minutes : ByteArray := prog_8_method_5_code
def yX6_minutes : MethodName := ⟨RX6, "minutes", "(LLastsToNext$Road;)I"⟩
abbrev cX6_leastCost : ByteArray := prog_8_method_6_code
def yX6_leastCost : MethodName := ⟨RX6, "leastCost", "(LLastsToNext$Road;I)I"⟩
abbrev cX6_answer : ByteArray := prog_8_method_7_code
def yX6_answer : MethodName := ⟨RX6, "answe\x72", "(J)I"⟩
abbrev cX6_look : ByteArray := prog_8_method_8_code
def yX6_look : MethodName := ⟨RX6, "look", "(LLastsToNext$Road;I)V"⟩
abbrev cX6_buyBest : ByteArray := prog_8_method_9_code
def yX6_buyBest : MethodName := ⟨RX6, "buyBest", "(LLastsToNext$Road;I[I)V"⟩
abbrev cX6_buyNothing : ByteArray := prog_8_method_10_code
def yX6_buyNothing : MethodName := ⟨RX6, "buyNothing", "([I)V"⟩
abbrev cX6_cheapestPints : ByteArray := prog_8_method_11_code
def yX6_cheapestPints : MethodName := ⟨RX6, "cheapestPints", "(LLastsToNext$Road;I)I"⟩
abbrev cX6_cheapestRest : ByteArray := prog_8_method_12_code
def yX6_cheapestRest : MethodName := ⟨RX6, "cheapestRest", "(LLastsToNext$Road;)I"⟩
abbrev cX6_levelOnComing : ByteArray := prog_8_method_13_code
def yX6_levelOnComing : MethodName := ⟨RX6, "levelOnComing", "(LLastsToNext$Road;I)I"⟩
abbrev cX6_worstGap : ByteArray := prog_8_method_14_code
def yX6_worstGap : MethodName := ⟨RX6, "worstGap", "(LLastsToNext$Road;)I"⟩
abbrev cX6_leastWithin : ByteArray := prog_8_method_15_code
def yX6_leastWithin : MethodName := ⟨RX6, "leastWithin", "(LLastsToNext$Road;I)I"⟩
abbrev cX6_fewestStops : ByteArray := prog_8_method_16_code
def yX6_fewestStops : MethodName := ⟨RX6, "fewestStops", "(LLastsToNext$Road;)I"⟩
abbrev cX6_lookByStops : ByteArray := prog_8_method_17_code
def yX6_lookByStops : MethodName := ⟨RX6, "lookByStops", "(LLastsToNext$Road;)V"⟩
abbrev cX6_stopHere : ByteArray := prog_8_method_18_code
def yX6_stopHere : MethodName := ⟨RX6, "stopHere", "(LLastsToNext$Road;I[J[J)V"⟩
abbrev cX6_leastBeginning : ByteArray := prog_8_method_19_code
def yX6_leastBeginning : MethodName := ⟨RX6, "leastBeginning", "(LLastsToNext$Road;)I"⟩
def RX7 : String := "LastsToNext$Reade\x72"
def TX7 : u_T := fun k => match k with
  | 0 => ("LastsToNext$Reade\x72", "fault", "I", false)
  | 1 => ("LastsToNext$Reade\x72", "faultPlace", "I", false)
  | 2 => ("LastsToNext$Reade\x72", "text", "[B", false)
  | 3 => ("LastsToNext$Reade\x72", "end", "I", false)
  | 4 => ("LastsToNext$Reade\x72", "road", "LLastsToNext$Road;", false)
  | 5 => ("LastsToNext$Reade\x72", "kind", "I", false)
  | 6 => ("LastsToNext$Reade\x72", "from", "I", false)
  | 7 => ("LastsToNext$Reade\x72", "to", "I", false)
  | 8 => ("LastsToNext$Reade\x72", "value", "I", false)
  | 9 => ("LastsToNext$Reade\x72", "nameFrom", "[I", true)
  | _ => ("LastsToNext$Reade\x72", "nameTo", "[I", true)
def tyX7 : Nat → FieldType := fun k => match k with
  | 0 => .int
  | 1 => .int
  | 2 => .array .byte
  | 3 => .int
  | 4 => .object "LastsToNext$Road"
  | 5 => .int
  | 6 => .int
  | 7 => .int
  | 8 => .int
  | 9 => .array .int
  | _ => .array .int
abbrev wsX70 : List Cond := u_ws RX7 TX7 11
theorem nmX7 : ∀ a, a < 11 → ∀ b, b < 11 → a ≠ b → (TX7 a).2.1 ≠ (TX7 b).2.1 := by decide +kernel
theorem tyX7_ok : ∀ k, k < 11 → parseFieldDescriptor (TX7 k).2.2.1 = some (tyX7 k) := by decide +kernel
abbrev cX7_init : ByteArray := prog_9_method_1_code
def yX7_init : MethodName := ⟨RX7, "<init>", "()V"⟩
abbrev cX7_readRoad : ByteArray := prog_9_method_2_code
def yX7_readRoad : MethodName := ⟨RX7, "readRoad", "([BILLastsToNext$Road;)Z"⟩
abbrev cX7_readLine : ByteArray := prog_9_method_3_code
def yX7_readLine : MethodName := ⟨RX7, "readLine", "()Z"⟩
abbrev cX7_readCar : ByteArray := prog_9_method_4_code
def yX7_readCar : MethodName := ⟨RX7, "readCa\x72", "()Z"⟩
abbrev cX7_readPlace : ByteArray := prog_9_method_5_code
def yX7_readPlace : MethodName := ⟨RX7, "readPlace", "()Z"⟩
abbrev cX7_readRoadBetween : ByteArray := prog_9_method_6_code
def yX7_readRoadBetween : MethodName := ⟨RX7, "readRoadBetween", "()Z"⟩
abbrev cX7_readPump : ByteArray := prog_9_method_7_code
def yX7_readPump : MethodName := ⟨RX7, "readPump", "()Z"⟩
abbrev cX7_readWay : ByteArray := prog_9_method_8_code
def yX7_readWay : MethodName := ⟨RX7, "readWay", "()Z"⟩
abbrev cX7_readReceipt : ByteArray := prog_9_method_9_code
def yX7_readReceipt : MethodName := ⟨RX7, "readReceipt", "()Z"⟩
abbrev cX7_failWith : ByteArray := prog_9_method_10_code
def yX7_failWith : MethodName := ⟨RX7, "failWith", "(I)Z"⟩
abbrev cX7_failAt : ByteArray := prog_9_method_11_code
def yX7_failAt : MethodName := ⟨RX7, "failAt", "(II)Z"⟩
abbrev cX7_lookOn : ByteArray := prog_9_method_12_code
def yX7_lookOn : MethodName := ⟨RX7, "lookOn", "()V"⟩
abbrev cX7_runLength : ByteArray := prog_9_method_13_code
def yX7_runLength : MethodName := ⟨RX7, "runLength", "(CC)I"⟩
abbrev cX7_isSign : ByteArray := prog_9_method_14_code
def yX7_isSign : MethodName := ⟨RX7, "isSign", "(C)Z"⟩
abbrev cX7_isWord : ByteArray := prog_9_method_15_code
def yX7_isWord : MethodName := ⟨RX7, "isWord", "(Ljava/lang/String;)Z"⟩
abbrev cX7_passSign : ByteArray := prog_9_method_16_code
def yX7_passSign : MethodName := ⟨RX7, "passSign", "(C)Z"⟩
abbrev cX7_passWord : ByteArray := prog_9_method_17_code
def yX7_passWord : MethodName := ⟨RX7, "passWord", "(Ljava/lang/String;)Z"⟩
abbrev cX7_passWhole : ByteArray := prog_9_method_18_code
def yX7_passWhole : MethodName := ⟨RX7, "passWhole", "(II)Z"⟩
abbrev cX7_isName : ByteArray := prog_9_method_19_code
def yX7_isName : MethodName := ⟨RX7, "isName", "()Z"⟩
abbrev cX7_isToldName : ByteArray := prog_9_method_20_code
def yX7_isToldName : MethodName := ⟨RX7, "isToldName", "()Z"⟩
abbrev cX7_placeNamed : ByteArray := prog_9_method_21_code
def yX7_placeNamed : MethodName := ⟨RX7, "placeNamed", "()I"⟩
abbrev cX7_isSameName : ByteArray := prog_9_method_22_code
def yX7_isSameName : MethodName := ⟨RX7, "isSameName", "(I)Z"⟩
def RX8 : String := "LastsToNext$Receipts"
def TX8 : u_T := fun k => match k with
  | 0 => ("LastsToNext$Receipts", "found", "I", false)
  | 1 => ("LastsToNext$Receipts", "could", "I", false)
  | 2 => ("LastsToNext$Receipts", "surely", "I", false)
  | 3 => ("LastsToNext$Receipts", "beginnings", "J", false)
  | 4 => ("LastsToNext$Receipts", "picked", "[I", true)
  | 5 => ("LastsToNext$Receipts", "pickedLength", "I", false)
  | 6 => ("LastsToNext$Receipts", "wanted", "I", false)
  | _ => ("LastsToNext$Receipts", "row", "[I", true)
def tyX8 : Nat → FieldType := fun k => match k with
  | 0 => .int
  | 1 => .int
  | 2 => .int
  | 3 => .long
  | 4 => .array .int
  | 5 => .int
  | 6 => .int
  | _ => .array .int
abbrev wsX80 : List Cond := u_ws RX8 TX8 8
theorem nmX8 : ∀ a, a < 8 → ∀ b, b < 8 → a ≠ b → (TX8 a).2.1 ≠ (TX8 b).2.1 := by decide +kernel
theorem tyX8_ok : ∀ k, k < 8 → parseFieldDescriptor (TX8 k).2.2.1 = some (tyX8 k) := by decide +kernel
abbrev cX8_init : ByteArray := prog_10_method_1_code
def yX8_init : MethodName := ⟨RX8, "<init>", "()V"⟩
abbrev cX8_search : ByteArray := prog_10_method_2_code
def yX8_search : MethodName := ⟨RX8, "search", "(LLastsToNext$Road;I)V"⟩
abbrev cX8_extend : ByteArray := prog_10_method_3_code
def yX8_extend : MethodName := ⟨RX8, "extend", "(LLastsToNext$Road;II)V"⟩
abbrev cX8_weigh : ByteArray := prog_10_method_4_code
def yX8_weigh : MethodName := ⟨RX8, "weigh", "(LLastsToNext$Road;II)V"⟩
abbrev cX8_fittingBeginnings : ByteArray := prog_10_method_5_code
def yX8_fittingBeginnings : MethodName := ⟨RX8, "fittingBeginnings", "(LLastsToNext$Road;I)J"⟩
abbrev cX8_beforeReceipt : ByteArray := prog_10_method_6_code
def yX8_beforeReceipt : MethodName := ⟨RX8, "beforeReceipt", "(LLastsToNext$Road;IJ)J"⟩
abbrev cX8_beforeBuying : ByteArray := prog_10_method_7_code
def yX8_beforeBuying : MethodName := ⟨RX8, "beforeBuying", "(IIJ)J"⟩
def RX9 : String := "LastsToNext$Road"
def TX9 : u_T := fun k => match k with
  | 0 => ("LastsToNext$Road", "tank", "I", false)
  | 1 => ("LastsToNext$Road", "has", "I", false)
  | 2 => ("LastsToNext$Road", "stopPence", "I", false)
  | 3 => ("LastsToNext$Road", "stopMinutes", "I", false)
  | 4 => ("LastsToNext$Road", "stuck", "I", false)
  | 5 => ("LastsToNext$Road", "places", "I", false)
  | 6 => ("LastsToNext$Road", "roads", "I", false)
  | 7 => ("LastsToNext$Road", "pumps", "I", false)
  | 8 => ("LastsToNext$Road", "stations", "I", false)
  | 9 => ("LastsToNext$Road", "receipts", "I", false)
  | 10 => ("LastsToNext$Road", "pints", "[I", true)
  | 11 => ("LastsToNext$Road", "minutes", "[I", true)
  | 12 => ("LastsToNext$Road", "first", "[I", true)
  | 13 => ("LastsToNext$Road", "second", "[I", true)
  | 14 => ("LastsToNext$Road", "shut", "[I", true)
  | 15 => ("LastsToNext$Road", "way", "[I", true)
  | 16 => ("LastsToNext$Road", "upTo", "[I", true)
  | 17 => ("LastsToNext$Road", "receiptPlace", "[I", true)
  | _ => ("LastsToNext$Road", "receiptPence", "[I", true)
def tyX9 : Nat → FieldType := fun k => match k with
  | 0 => .int
  | 1 => .int
  | 2 => .int
  | 3 => .int
  | 4 => .int
  | 5 => .int
  | 6 => .int
  | 7 => .int
  | 8 => .int
  | 9 => .int
  | 10 => .array .int
  | 11 => .array .int
  | 12 => .array .int
  | 13 => .array .int
  | 14 => .array .int
  | 15 => .array .int
  | 16 => .array .int
  | 17 => .array .int
  | _ => .array .int
abbrev wsX90 : List Cond := u_ws RX9 TX9 19
theorem nmX9 : ∀ a, a < 19 → ∀ b, b < 19 → a ≠ b → (TX9 a).2.1 ≠ (TX9 b).2.1 := by decide +kernel
theorem tyX9_ok : ∀ k, k < 19 → parseFieldDescriptor (TX9 k).2.2.1 = some (tyX9 k) := by decide +kernel
abbrev cX9_init : ByteArray := prog_11_method_1_code
def yX9_init : MethodName := ⟨RX9, "<init>", "()V"⟩
abbrev cX9_clear : ByteArray := prog_11_method_2_code
def yX9_clear : MethodName := ⟨RX9, "clea\x72", "()V"⟩
abbrev cX9_addRoad : ByteArray := prog_11_method_3_code
def yX9_addRoad : MethodName := ⟨RX9, "addRoad", "(IIII)V"⟩
abbrev cX9_isTold : ByteArray := prog_11_method_4_code
def yX9_isTold : MethodName := ⟨RX9, "isTold", "()Z"⟩
abbrev cX9_isPlace : ByteArray := prog_11_method_5_code
def yX9_isPlace : MethodName := ⟨RX9, "isPlace", "(I)Z"⟩
abbrev cX9_isStation : ByteArray := prog_11_method_6_code
def yX9_isStation : MethodName := ⟨RX9, "isStation", "(I)Z"⟩
abbrev cX9_isLeft : ByteArray := prog_11_method_7_code
def yX9_isLeft : MethodName := ⟨RX9, "isLeft", "(I)Z"⟩
abbrev cX9_isLevel : ByteArray := prog_11_method_8_code
def yX9_isLevel : MethodName := ⟨RX9, "isLevel", "(I)Z"⟩
abbrev cX9_isRoad : ByteArray := prog_11_method_9_code
def yX9_isRoad : MethodName := ⟨RX9, "isRoad", "(II)Z"⟩
abbrev cX9_pintsOf : ByteArray := prog_11_method_10_code
def yX9_pintsOf : MethodName := ⟨RX9, "pintsOf", "(II)I"⟩
abbrev cX9_minutesOf : ByteArray := prog_11_method_11_code
def yX9_minutesOf : MethodName := ⟨RX9, "minutesOf", "(II)I"⟩
abbrev cX9_start : ByteArray := prog_11_method_12_code
def yX9_start : MethodName := ⟨RX9, "start", "()I"⟩
abbrev cX9_goal : ByteArray := prog_11_method_13_code
def yX9_goal : MethodName := ⟨RX9, "goal", "()I"⟩
abbrev cX9_legPints : ByteArray := prog_11_method_14_code
def yX9_legPints : MethodName := ⟨RX9, "legPints", "(I)I"⟩
abbrev cX9_legMinutes : ByteArray := prog_11_method_15_code
def yX9_legMinutes : MethodName := ⟨RX9, "legMinutes", "(I)I"⟩
abbrev cX9_legsPints : ByteArray := prog_11_method_16_code
def yX9_legsPints : MethodName := ⟨RX9, "legsPints", "(II)I"⟩
abbrev cX9_lastReached : ByteArray := prog_11_method_17_code
def yX9_lastReached : MethodName := ⟨RX9, "lastReached", "(II)I"⟩
abbrev cX9_hasPumpAt : ByteArray := prog_11_method_18_code
def yX9_hasPumpAt : MethodName := ⟨RX9, "hasPumpAt", "(I)Z"⟩
abbrev cX9_priceAt : ByteArray := prog_11_method_19_code
def yX9_priceAt : MethodName := ⟨RX9, "priceAt", "(IZ)I"⟩
abbrev cX9_sizeOf : ByteArray := prog_11_method_20_code
def yX9_sizeOf : MethodName := ⟨RX9, "sizeOf", "(I)I"⟩
def RX10 : String := "LastsToNext"
def TX10 : u_T := fun k => match k with
  | 0 => ("LastsToNext", "tape", "[B", true)
  | 1 => ("LastsToNext", "taped", "I", false)
  | 2 => ("LastsToNext", "road", "LLastsToNext$Road;", false)
  | 3 => ("LastsToNext", "spare", "LLastsToNext$Road;", false)
  | 4 => ("LastsToNext", "reade\x72", "LLastsToNext$Reader;", true)
  | 5 => ("LastsToNext", "plans", "LLastsToNext$Plans;", true)
  | 6 => ("LastsToNext", "drivers", "LLastsToNext$Drivers;", true)
  | 7 => ("LastsToNext", "net", "LLastsToNext$Net;", true)
  | 8 => ("LastsToNext", "receipts", "LLastsToNext$Receipts;", true)
  | 9 => ("LastsToNext", "journey", "LLastsToNext$Journey;", true)
  | 10 => ("LastsToNext", "fraction", "LLastsToNext$Fraction;", true)
  | 11 => ("LastsToNext", "trouble", "I", false)
  | 12 => ("LastsToNext", "fault", "I", false)
  | _ => ("LastsToNext", "faultPlace", "I", false)
def tyX10 : Nat → FieldType := fun k => match k with
  | 0 => .array .byte
  | 1 => .int
  | 2 => .object "LastsToNext$Road"
  | 3 => .object "LastsToNext$Road"
  | 4 => .object "LastsToNext$Reade\x72"
  | 5 => .object "LastsToNext$Plans"
  | 6 => .object "LastsToNext$Drivers"
  | 7 => .object "LastsToNext$Net"
  | 8 => .object "LastsToNext$Receipts"
  | 9 => .object "LastsToNext$Journey"
  | 10 => .object "LastsToNext$Fraction"
  | 11 => .int
  | 12 => .int
  | _ => .int
abbrev wsX100 : List Cond := u_ws RX10 TX10 14
theorem nmX10 : ∀ a, a < 14 → ∀ b, b < 14 → a ≠ b → (TX10 a).2.1 ≠ (TX10 b).2.1 := by decide +kernel
theorem tyX10_ok : ∀ k, k < 14 → parseFieldDescriptor (TX10 k).2.2.1 = some (tyX10 k) := by decide +kernel
abbrev cX10_init : ByteArray := prog_1_method_1_code
def yX10_init : MethodName := ⟨RX10, "<init>", "()V"⟩
abbrev cX10_feed : ByteArray := prog_1_method_2_code
def yX10_feed : MethodName := ⟨RX10, "feed", "(IIIII)I"⟩
abbrev cX10_road : ByteArray := prog_1_method_3_code
def yX10_road : MethodName := ⟨RX10, "road", "(I)I"⟩
abbrev cX10_fault : ByteArray := prog_1_method_4_code
def yX10_fault : MethodName := ⟨RX10, "fault", "()I"⟩
abbrev cX10_where : ByteArray := prog_1_method_5_code
def yX10_where : MethodName := ⟨RX10, "where", "()I"⟩
abbrev cX10_takes : ByteArray := prog_1_method_6_code
def yX10_takes : MethodName := ⟨RX10, "takes", "(IIZ)I"⟩
abbrev cX10_pump : ByteArray := prog_1_method_7_code
def yX10_pump : MethodName := ⟨RX10, "pump", "(II)I"⟩
abbrev cX10_station : ByteArray := prog_1_method_8_code
def yX10_station : MethodName := ⟨RX10, "station", "(I)I"⟩
abbrev cX10_legs : ByteArray := prog_1_method_9_code
def yX10_legs : MethodName := ⟨RX10, "legs", "(II)I"⟩
abbrev cX10_lasts : ByteArray := prog_1_method_10_code
def yX10_lasts : MethodName := ⟨RX10, "lasts", "(II)I"⟩
abbrev cX10_plan : ByteArray := prog_1_method_11_code
def yX10_plan : MethodName := ⟨RX10, "plan", "(II)Z"⟩
abbrev cX10_judge : ByteArray := prog_1_method_12_code
def yX10_judge : MethodName := ⟨RX10, "judge", "()I"⟩
abbrev cX10_cost : ByteArray := prog_1_method_13_code
def yX10_cost : MethodName := ⟨RX10, "cost", "()I"⟩
abbrev cX10_cheapest : ByteArray := prog_1_method_14_code
def yX10_cheapest : MethodName := ⟨RX10, "cheapest", "()I"⟩
abbrev cX10_how : ByteArray := prog_1_method_15_code
def yX10_how : MethodName := ⟨RX10, "how", "(I)I"⟩
abbrev cX10_fewest : ByteArray := prog_1_method_16_code
def yX10_fewest : MethodName := ⟨RX10, "fewest", "()I"⟩
abbrev cX10_time : ByteArray := prog_1_method_17_code
def yX10_time : MethodName := ⟨RX10, "time", "()I"⟩
abbrev cX10_without : ByteArray := prog_1_method_18_code
def yX10_without : MethodName := ⟨RX10, "without", "(I)I"⟩
abbrev cX10_gap : ByteArray := prog_1_method_19_code
def yX10_gap : MethodName := ⟨RX10, "gap", "()I"⟩
abbrev cX10_within : ByteArray := prog_1_method_20_code
def yX10_within : MethodName := ⟨RX10, "within", "(I)I"⟩
abbrev cX10_rest : ByteArray := prog_1_method_21_code
def yX10_rest : MethodName := ⟨RX10, "rest", "()I"⟩
abbrev cX10_need : ByteArray := prog_1_method_22_code
def yX10_need : MethodName := ⟨RX10, "need", "()I"⟩
abbrev cX10_buys : ByteArray := prog_1_method_23_code
def yX10_buys : MethodName := ⟨RX10, "buys", "(IIIZ)I"⟩
abbrev cX10_byRule : ByteArray := prog_1_method_24_code
def yX10_byRule : MethodName := ⟨RX10, "byRule", "(I)I"⟩
abbrev cX10_stuckAt : ByteArray := prog_1_method_25_code
def yX10_stuckAt : MethodName := ⟨RX10, "stuckAt", "(I)I"⟩
abbrev cX10_odds : ByteArray := prog_1_method_26_code
def yX10_odds : MethodName := ⟨RX10, "odds", "(IZ)J"⟩
abbrev cX10_mean : ByteArray := prog_1_method_27_code
def yX10_mean : MethodName := ⟨RX10, "mean", "(IZ)J"⟩
abbrev cX10_bestRule : ByteArray := prog_1_method_28_code
def yX10_bestRule : MethodName := ⟨RX10, "bestRule", "()I"⟩
abbrev cX10_bestMean : ByteArray := prog_1_method_29_code
def yX10_bestMean : MethodName := ⟨RX10, "bestMean", "(Z)J"⟩
abbrev cX10_buy : ByteArray := prog_1_method_30_code
def yX10_buy : MethodName := ⟨RX10, "buy", "(IIZ)I"⟩
abbrev cX10_sure : ByteArray := prog_1_method_31_code
def yX10_sure : MethodName := ⟨RX10, "sure", "(Z)J"⟩
abbrev cX10_net : ByteArray := prog_1_method_32_code
def yX10_net : MethodName := ⟨RX10, "net", "(Z)I"⟩
abbrev cX10_most : ByteArray := prog_1_method_33_code
def yX10_most : MethodName := ⟨RX10, "most", "(I)I"⟩
abbrev cX10_near : ByteArray := prog_1_method_34_code
def yX10_near : MethodName := ⟨RX10, "nea\x72", "(II)I"⟩
abbrev cX10_worth : ByteArray := prog_1_method_35_code
def yX10_worth : MethodName := ⟨RX10, "worth", "()I"⟩
abbrev cX10_far : ByteArray := prog_1_method_36_code
def yX10_far : MethodName := ⟨RX10, "fa\x72", "(IZZ)J"⟩
abbrev cX10_loads : ByteArray := prog_1_method_37_code
def yX10_loads : MethodName := ⟨RX10, "loads", "(IZ)I"⟩
abbrev cX10_depot : ByteArray := prog_1_method_38_code
def yX10_depot : MethodName := ⟨RX10, "depot", "(IZIZ)J"⟩
abbrev cX10_convoy : ByteArray := prog_1_method_39_code
def yX10_convoy : MethodName := ⟨RX10, "convoy", "(IZ)J"⟩
abbrev cX10_fits : ByteArray := prog_1_method_40_code
def yX10_fits : MethodName := ⟨RX10, "fits", "()I"⟩
abbrev cX10_fit : ByteArray := prog_1_method_41_code
def yX10_fit : MethodName := ⟨RX10, "fit", "(II)I"⟩
abbrev cX10_went : ByteArray := prog_1_method_42_code
def yX10_went : MethodName := ⟨RX10, "went", "(Z)I"⟩
abbrev cX10_needle : ByteArray := prog_1_method_43_code
def yX10_needle : MethodName := ⟨RX10, "needle", "(Z)I"⟩
abbrev cX10_run : ByteArray := prog_1_method_44_code
def yX10_run : MethodName := ⟨RX10, "run", "(II)I"⟩
abbrev cX10_through : ByteArray := prog_1_method_45_code
def yX10_through : MethodName := ⟨RX10, "through", "(III)I"⟩
abbrev cX10_beats : ByteArray := prog_1_method_46_code
def yX10_beats : MethodName := ⟨RX10, "beats", "(IIII)I"⟩
abbrev cX10_car : ByteArray := prog_1_method_47_code
def yX10_car : MethodName := ⟨RX10, "ca\x72", "(I)I"⟩
abbrev cX10_fill : ByteArray := prog_1_method_48_code
def yX10_fill : MethodName := ⟨RX10, "fill", "(I)I"⟩
abbrev cX10_drive : ByteArray := prog_1_method_49_code
def yX10_drive : MethodName := ⟨RX10, "drive", "(I)I"⟩
abbrev cX10_waits : ByteArray := prog_1_method_50_code
def yX10_waits : MethodName := ⟨RX10, "waits", "()I"⟩
abbrev cX10_seed : ByteArray := prog_1_method_51_code
def yX10_seed : MethodName := ⟨RX10, "seed", "(I)Z"⟩
abbrev cX10_undo : ByteArray := prog_1_method_52_code
def yX10_undo : MethodName := ⟨RX10, "undo", "()Z"⟩
abbrev cX10_image : ByteArray := prog_1_method_53_code
def yX10_image : MethodName := ⟨RX10, "image", "()I"⟩
abbrev cX10_back : ByteArray := prog_1_method_54_code
def yX10_back : MethodName := ⟨RX10, "back", "(I)Z"⟩
abbrev cX10_led : ByteArray := prog_1_method_55_code
def yX10_led : MethodName := ⟨RX10, "led", "(I)I"⟩
abbrev cX10_size : ByteArray := prog_1_method_56_code
def yX10_size : MethodName := ⟨RX10, "size", "(I)I"⟩
abbrev cX10_trouble : ByteArray := prog_1_method_57_code
def yX10_trouble : MethodName := ⟨RX10, "trouble", "()I"⟩
abbrev cX10_putBytes : ByteArray := prog_1_method_58_code
def yX10_putBytes : MethodName := ⟨RX10, "putBytes", "(I)V"⟩
abbrev cX10_accept : ByteArray := prog_1_method_59_code
def yX10_accept : MethodName := ⟨RX10, "accept", "(I)I"⟩
abbrev cX10_refuse : ByteArray := prog_1_method_60_code
def yX10_refuse : MethodName := ⟨RX10, "refuse", "(I)I"⟩
abbrev cX10_allow : ByteArray := prog_1_method_61_code
def yX10_allow : MethodName := ⟨RX10, "allow", "()Z"⟩
abbrev cX10_deny : ByteArray := prog_1_method_62_code
def yX10_deny : MethodName := ⟨RX10, "deny", "(I)Z"⟩
abbrev cX10_acceptFraction : ByteArray := prog_1_method_63_code
def yX10_acceptFraction : MethodName := ⟨RX10, "acceptFraction", "(Z)J"⟩
abbrev cX10_areTwoPlaces : ByteArray := prog_1_method_64_code
def yX10_areTwoPlaces : MethodName := ⟨RX10, "areTwoPlaces", "(II)Z"⟩
abbrev cX10_isRuleOfRoad : ByteArray := prog_1_method_65_code
def yX10_isRuleOfRoad : MethodName := ⟨RX10, "isRuleOfRoad", "(I)Z"⟩
abbrev cX10_whyNoBuying : ByteArray := prog_1_method_66_code
def yX10_whyNoBuying : MethodName := ⟨RX10, "whyNoBuying", "(IIZ)I"⟩
abbrev cX10_whyNoRuns : ByteArray := prog_1_method_67_code
def yX10_whyNoRuns : MethodName := ⟨RX10, "whyNoRuns", "(III)I"⟩
abbrev cX10_isRule : ByteArray := prog_1_method_68_code
def yX10_isRule : MethodName := ⟨RX10, "isRule", "(I)Z"⟩
abbrev cX10_isSeed : ByteArray := prog_1_method_69_code
def yX10_isSeed : MethodName := ⟨RX10, "isSeed", "(I)Z"⟩
abbrev cX10_addParts : ByteArray := prog_1_method_70_code
def yX10_addParts : MethodName := ⟨RX10, "addParts", "(ZII)V"⟩
abbrev cX10_fewestLoads : ByteArray := prog_1_method_71_code
def yX10_fewestLoads : MethodName := ⟨RX10, "fewestLoads", "(IZ)I"⟩
def RX11 : String := "LastsToNextModel"
def TX11 : u_T := fun k => match k with
  | 0 => ("LastsToNextModel", "thrown", "I", false)
  | 1 => ("LastsToNextModel", "tape", "[I", true)
  | 2 => ("LastsToNextModel", "taped", "I", false)
  | 3 => ("LastsToNextModel", "size", "I", false)
  | 4 => ("LastsToNextModel", "at", "I", false)
  | 5 => ("LastsToNextModel", "end", "I", false)
  | 6 => ("LastsToNextModel", "token", "I", false)
  | 7 => ("LastsToNextModel", "whole", "I", false)
  | 8 => ("LastsToNextModel", "nameSize", "I", false)
  | 9 => ("LastsToNextModel", "fault", "I", false)
  | 10 => ("LastsToNextModel", "place", "I", false)
  | 11 => ("LastsToNextModel", "trouble", "I", false)
  | 12 => ("LastsToNextModel", "letters", "[I", true)
  | 13 => ("LastsToNextModel", "failed", "Z", false)
  | 14 => ("LastsToNextModel", "hasRoad", "Z", false)
  | 15 => ("LastsToNextModel", "\x72", "[I", true)
  | 16 => ("LastsToNextModel", "fresh", "[I", true)
  | 17 => ("LastsToNextModel", "planned", "[I", true)
  | 18 => ("LastsToNextModel", "st", "[I", true)
  | 19 => ("LastsToNextModel", "undone", "[I", true)
  | 20 => ("LastsToNextModel", "kept", "[I", true)
  | 21 => ("LastsToNextModel", "undos", "I", false)
  | 22 => ("LastsToNextModel", "images", "I", false)
  | 23 => ("LastsToNextModel", "least", "[I", true)
  | 24 => ("LastsToNextModel", "buys1", "[I", true)
  | 25 => ("LastsToNextModel", "byStops", "[I", true)
  | 26 => ("LastsToNextModel", "stuck", "I", false)
  | 27 => ("LastsToNextModel", "means", "[J", true)
  | 28 => ("LastsToNextModel", "net", "[I", true)
  | 29 => ("LastsToNextModel", "bought1", "[I", true)
  | 30 => ("LastsToNextModel", "fa\x72", "[I", true)
  | 31 => ("LastsToNextModel", "uppe\x72", "J", false)
  | 32 => ("LastsToNextModel", "unde\x72", "J", false)
  | 33 => ("LastsToNextModel", "row", "[I", true)
  | 34 => ("LastsToNextModel", "found", "[I", true)
  | 35 => ("LastsToNextModel", "sought", "I", false)
  | 36 => ("LastsToNextModel", "fitMany", "I", false)
  | 37 => ("LastsToNextModel", "all", "I", false)
  | 38 => ("LastsToNextModel", "some", "I", false)
  | 39 => ("LastsToNextModel", "begun", "I", false)
  | _ => ("LastsToNextModel", "seed1", "I", false)
def tyX11 : Nat → FieldType := fun k => match k with
  | 0 => .int
  | 1 => .array .int
  | 2 => .int
  | 3 => .int
  | 4 => .int
  | 5 => .int
  | 6 => .int
  | 7 => .int
  | 8 => .int
  | 9 => .int
  | 10 => .int
  | 11 => .int
  | 12 => .array .int
  | 13 => .boolean
  | 14 => .boolean
  | 15 => .array .int
  | 16 => .array .int
  | 17 => .array .int
  | 18 => .array .int
  | 19 => .array .int
  | 20 => .array .int
  | 21 => .int
  | 22 => .int
  | 23 => .array .int
  | 24 => .array .int
  | 25 => .array .int
  | 26 => .int
  | 27 => .array .long
  | 28 => .array .int
  | 29 => .array .int
  | 30 => .array .int
  | 31 => .long
  | 32 => .long
  | 33 => .array .int
  | 34 => .array .int
  | 35 => .int
  | 36 => .int
  | 37 => .int
  | 38 => .int
  | 39 => .int
  | _ => .int
abbrev wsX110 : List Cond := u_ws RX11 TX11 41
theorem nmX11 : ∀ a, a < 41 → ∀ b, b < 41 → a ≠ b → (TX11 a).2.1 ≠ (TX11 b).2.1 := by decide +kernel
theorem tyX11_ok : ∀ k, k < 41 → parseFieldDescriptor (TX11 k).2.2.1 = some (tyX11 k) := by decide +kernel
abbrev cX11_init : ByteArray := prog_13_method_1_code
def yX11_init : MethodName := ⟨RX11, "<init>", "()V"⟩
abbrev cX11_thrown : ByteArray := prog_13_method_2_code
def yX11_thrown : MethodName := ⟨RX11, "thrown", "()I"⟩
abbrev cX11_good : ByteArray := prog_13_method_3_code
def yX11_good : MethodName := ⟨RX11, "good", "()V"⟩
abbrev cX11_no : ByteArray := prog_13_method_4_code
def yX11_no : MethodName := ⟨RX11, "no", "(I)I"⟩
abbrev cX11_isNot : ByteArray := prog_13_method_5_code
def yX11_isNot : MethodName := ⟨RX11, "isNot", "(I)Z"⟩
abbrev cX11_in : ByteArray := prog_13_method_6_code
def yX11_in : MethodName := ⟨RX11, "in", "(III)Z"⟩
abbrev cX11_hasBit : ByteArray := prog_13_method_7_code
def yX11_hasBit : MethodName := ⟨RX11, "hasBit", "(II)Z"⟩
abbrev cX11_copy : ByteArray := prog_13_method_8_code
def yX11_copy : MethodName := ⟨RX11, "copy", "([II[III)V"⟩
abbrev cX11_dividing : ByteArray := prog_13_method_9_code
def yX11_dividing : MethodName := ⟨RX11, "dividing", "(JJ)J"⟩
abbrev cX11_lowest : ByteArray := prog_13_method_10_code
def yX11_lowest : MethodName := ⟨RX11, "lowest", "(JJZ)J"⟩
abbrev cX11_feed : ByteArray := prog_13_method_11_code
def yX11_feed : MethodName := ⟨RX11, "feed", "(IIIII)I"⟩
abbrev cX11_look : ByteArray := prog_13_method_12_code
def yX11_look : MethodName := ⟨RX11, "look", "(I)I"⟩
abbrev cX11_isSmall : ByteArray := prog_13_method_13_code
def yX11_isSmall : MethodName := ⟨RX11, "isSmall", "(I)Z"⟩
abbrev cX11_isDigit : ByteArray := prog_13_method_14_code
def yX11_isDigit : MethodName := ⟨RX11, "isDigit", "(I)Z"⟩
abbrev cX11_next : ByteArray := prog_13_method_15_code
def yX11_next : MethodName := ⟨RX11, "next", "()V"⟩
abbrev cX11_wrong : ByteArray := prog_13_method_16_code
def yX11_wrong : MethodName := ⟨RX11, "wrong", "(II)V"⟩
abbrev cX11_isWord : ByteArray := prog_13_method_17_code
def yX11_isWord : MethodName := ⟨RX11, "isWord", "(Ljava/lang/String;)Z"⟩
abbrev cX11_takesWord : ByteArray := prog_13_method_18_code
def yX11_takesWord : MethodName := ⟨RX11, "takesWord", "(Ljava/lang/String;)Z"⟩
abbrev cX11_must : ByteArray := prog_13_method_19_code
def yX11_must : MethodName := ⟨RX11, "must", "(Ljava/lang/String;)V"⟩
abbrev cX11_mustName : ByteArray := prog_13_method_20_code
def yX11_mustName : MethodName := ⟨RX11, "mustName", "()V"⟩
abbrev cX11_find : ByteArray := prog_13_method_21_code
def yX11_find : MethodName := ⟨RX11, "find", "()I"⟩
abbrev cX11_placeHere : ByteArray := prog_13_method_22_code
def yX11_placeHere : MethodName := ⟨RX11, "placeHere", "()I"⟩
abbrev cX11_placePassed : ByteArray := prog_13_method_23_code
def yX11_placePassed : MethodName := ⟨RX11, "placePassed", "()I"⟩
abbrev cX11_numberHere : ByteArray := prog_13_method_24_code
def yX11_numberHere : MethodName := ⟨RX11, "numberHere", "(II)I"⟩
abbrev cX11_number : ByteArray := prog_13_method_25_code
def yX11_number : MethodName := ⟨RX11, "numbe\x72", "(II)I"⟩
abbrev cX11_after : ByteArray := prog_13_method_26_code
def yX11_after : MethodName := ⟨RX11, "afte\x72", "(Ljava/lang/String;II)I"⟩
abbrev cX11_comma : ByteArray := prog_13_method_27_code
def yX11_comma : MethodName := ⟨RX11, "comma", "()Z"⟩
abbrev cX11_road : ByteArray := prog_13_method_28_code
def yX11_road : MethodName := ⟨RX11, "road", "(I)I"⟩
abbrev cX11_begins : ByteArray := prog_13_method_29_code
def yX11_begins : MethodName := ⟨RX11, "begins", "(Ljava/lang/String;Z)Z"⟩
abbrev cX11_readLine : ByteArray := prog_13_method_30_code
def yX11_readLine : MethodName := ⟨RX11, "readLine", "()V"⟩
abbrev cX11_carLine : ByteArray := prog_13_method_31_code
def yX11_carLine : MethodName := ⟨RX11, "carLine", "()V"⟩
abbrev cX11_placeLine : ByteArray := prog_13_method_32_code
def yX11_placeLine : MethodName := ⟨RX11, "placeLine", "()V"⟩
abbrev cX11_roadLine : ByteArray := prog_13_method_33_code
def yX11_roadLine : MethodName := ⟨RX11, "roadLine", "()V"⟩
abbrev cX11_pumpLine : ByteArray := prog_13_method_34_code
def yX11_pumpLine : MethodName := ⟨RX11, "pumpLine", "()V"⟩
abbrev cX11_wayLine : ByteArray := prog_13_method_35_code
def yX11_wayLine : MethodName := ⟨RX11, "wayLine", "()V"⟩
abbrev cX11_receiptLine : ByteArray := prog_13_method_36_code
def yX11_receiptLine : MethodName := ⟨RX11, "receiptLine", "()V"⟩
abbrev cX11_fault : ByteArray := prog_13_method_37_code
def yX11_fault : MethodName := ⟨RX11, "fault", "()I"⟩
abbrev cX11_where : ByteArray := prog_13_method_38_code
def yX11_where : MethodName := ⟨RX11, "where", "()I"⟩
abbrev cX11_isPlace : ByteArray := prog_13_method_39_code
def yX11_isPlace : MethodName := ⟨RX11, "isPlace", "(I)Z"⟩
abbrev cX11_isStation : ByteArray := prog_13_method_40_code
def yX11_isStation : MethodName := ⟨RX11, "isStation", "(I)Z"⟩
abbrev cX11_isStop : ByteArray := prog_13_method_41_code
def yX11_isStop : MethodName := ⟨RX11, "isStop", "(I)Z"⟩
abbrev cX11_lastStation : ByteArray := prog_13_method_42_code
def yX11_lastStation : MethodName := ⟨RX11, "lastStation", "()I"⟩
abbrev cX11_isRule : ByteArray := prog_13_method_43_code
def yX11_isRule : MethodName := ⟨RX11, "isRule", "(I)Z"⟩
abbrev cX11_roadOf : ByteArray := prog_13_method_44_code
def yX11_roadOf : MethodName := ⟨RX11, "roadOf", "(II)I"⟩
abbrev cX11_pumpOf : ByteArray := prog_13_method_45_code
def yX11_pumpOf : MethodName := ⟨RX11, "pumpOf", "(II)I"⟩
abbrev cX11_placeOf : ByteArray := prog_13_method_46_code
def yX11_placeOf : MethodName := ⟨RX11, "placeOf", "(I)I"⟩
abbrev cX11_priceAt : ByteArray := prog_13_method_47_code
def yX11_priceAt : MethodName := ⟨RX11, "priceAt", "(I)I"⟩
abbrev cX11_leg : ByteArray := prog_13_method_48_code
def yX11_leg : MethodName := ⟨RX11, "leg", "(I)I"⟩
abbrev cX11_legsOf : ByteArray := prog_13_method_49_code
def yX11_legsOf : MethodName := ⟨RX11, "legsOf", "(II)I"⟩
abbrev cX11_takes : ByteArray := prog_13_method_50_code
def yX11_takes : MethodName := ⟨RX11, "takes", "(IIZ)I"⟩
abbrev cX11_pump : ByteArray := prog_13_method_51_code
def yX11_pump : MethodName := ⟨RX11, "pump", "(II)I"⟩
abbrev cX11_station : ByteArray := prog_13_method_52_code
def yX11_station : MethodName := ⟨RX11, "station", "(I)I"⟩
abbrev cX11_legs : ByteArray := prog_13_method_53_code
def yX11_legs : MethodName := ⟨RX11, "legs", "(II)I"⟩
abbrev cX11_lasts : ByteArray := prog_13_method_54_code
def yX11_lasts : MethodName := ⟨RX11, "lasts", "(II)I"⟩
abbrev cX11_plan : ByteArray := prog_13_method_55_code
def yX11_plan : MethodName := ⟨RX11, "plan", "(II)Z"⟩
abbrev cX11_judged : ByteArray := prog_13_method_56_code
def yX11_judged : MethodName := ⟨RX11, "judged", "()I"⟩
abbrev cX11_judge : ByteArray := prog_13_method_57_code
def yX11_judge : MethodName := ⟨RX11, "judge", "()I"⟩
abbrev cX11_cost : ByteArray := prog_13_method_58_code
def yX11_cost : MethodName := ⟨RX11, "cost", "()I"⟩
abbrev cX11_time : ByteArray := prog_13_method_59_code
def yX11_time : MethodName := ⟨RX11, "time", "()I"⟩
abbrev cX11_layPlans : ByteArray := prog_13_method_60_code
def yX11_layPlans : MethodName := ⟨RX11, "layPlans", "(ZI)V"⟩
abbrev cX11_leastFrom : ByteArray := prog_13_method_61_code
def yX11_leastFrom : MethodName := ⟨RX11, "leastFrom", "(I)I"⟩
abbrev cX11_cheapest : ByteArray := prog_13_method_62_code
def yX11_cheapest : MethodName := ⟨RX11, "cheapest", "()I"⟩
abbrev cX11_how : ByteArray := prog_13_method_63_code
def yX11_how : MethodName := ⟨RX11, "how", "(I)I"⟩
abbrev cX11_fewest : ByteArray := prog_13_method_64_code
def yX11_fewest : MethodName := ⟨RX11, "fewest", "()I"⟩
abbrev cX11_without : ByteArray := prog_13_method_65_code
def yX11_without : MethodName := ⟨RX11, "without", "(I)I"⟩
abbrev cX11_gap : ByteArray := prog_13_method_66_code
def yX11_gap : MethodName := ⟨RX11, "gap", "()I"⟩
abbrev cX11_need : ByteArray := prog_13_method_67_code
def yX11_need : MethodName := ⟨RX11, "need", "()I"⟩
abbrev cX11_within : ByteArray := prog_13_method_68_code
def yX11_within : MethodName := ⟨RX11, "within", "(I)I"⟩
abbrev cX11_leastBy : ByteArray := prog_13_method_69_code
def yX11_leastBy : MethodName := ⟨RX11, "leastBy", "(III)I"⟩
abbrev cX11_rest : ByteArray := prog_13_method_70_code
def yX11_rest : MethodName := ⟨RX11, "rest", "()I"⟩
abbrev cX11_bought : ByteArray := prog_13_method_71_code
def yX11_bought : MethodName := ⟨RX11, "bought", "(IIII)I"⟩
abbrev cX11_pumpWhy : ByteArray := prog_13_method_72_code
def yX11_pumpWhy : MethodName := ⟨RX11, "pumpWhy", "(IIZ)I"⟩
abbrev cX11_buys : ByteArray := prog_13_method_73_code
def yX11_buys : MethodName := ⟨RX11, "buys", "(IIIZ)I"⟩
abbrev cX11_paidBy : ByteArray := prog_13_method_74_code
def yX11_paidBy : MethodName := ⟨RX11, "paidBy", "(I)I"⟩
abbrev cX11_byRule : ByteArray := prog_13_method_75_code
def yX11_byRule : MethodName := ⟨RX11, "byRule", "(I)I"⟩
abbrev cX11_stuckAt : ByteArray := prog_13_method_76_code
def yX11_stuckAt : MethodName := ⟨RX11, "stuckAt", "(I)I"⟩
abbrev cX11_twenties : ByteArray := prog_13_method_77_code
def yX11_twenties : MethodName := ⟨RX11, "twenties", "(I)J"⟩
abbrev cX11_behind : ByteArray := prog_13_method_78_code
def yX11_behind : MethodName := ⟨RX11, "behind", "(IIZ)J"⟩
abbrev cX11_comes1 : ByteArray := prog_13_method_79_code
def yX11_comes1 : MethodName := ⟨RX11, "comes1", "(IIIII)J"⟩
abbrev cX11_bestBuy : ByteArray := prog_13_method_80_code
def yX11_bestBuy : MethodName := ⟨RX11, "bestBuy", "(IIII)I"⟩
abbrev cX11_atPrice : ByteArray := prog_13_method_81_code
def yX11_atPrice : MethodName := ⟨RX11, "atPrice", "(IIII)J"⟩
abbrev cX11_layMeans : ByteArray := prog_13_method_82_code
def yX11_layMeans : MethodName := ⟨RX11, "layMeans", "(I)V"⟩
abbrev cX11_meanAt : ByteArray := prog_13_method_83_code
def yX11_meanAt : MethodName := ⟨RX11, "meanAt", "(III)J"⟩
abbrev cX11_meanOf : ByteArray := prog_13_method_84_code
def yX11_meanOf : MethodName := ⟨RX11, "meanOf", "(IZ)J"⟩
abbrev cX11_mean : ByteArray := prog_13_method_85_code
def yX11_mean : MethodName := ⟨RX11, "mean", "(IZ)J"⟩
abbrev cX11_bestRule : ByteArray := prog_13_method_86_code
def yX11_bestRule : MethodName := ⟨RX11, "bestRule", "()I"⟩
abbrev cX11_bestMean : ByteArray := prog_13_method_87_code
def yX11_bestMean : MethodName := ⟨RX11, "bestMean", "(Z)J"⟩
abbrev cX11_buy : ByteArray := prog_13_method_88_code
def yX11_buy : MethodName := ⟨RX11, "buy", "(IIZ)I"⟩
abbrev cX11_sure : ByteArray := prog_13_method_89_code
def yX11_sure : MethodName := ⟨RX11, "sure", "(Z)J"⟩
abbrev cX11_odds : ByteArray := prog_13_method_90_code
def yX11_odds : MethodName := ⟨RX11, "odds", "(IZ)J"⟩
abbrev cX11_less : ByteArray := prog_13_method_91_code
def yX11_less : MethodName := ⟨RX11, "less", "([III)Z"⟩
abbrev cX11_layNet : ByteArray := prog_13_method_92_code
def yX11_layNet : MethodName := ⟨RX11, "layNet", "(Z)V"⟩
abbrev cX11_goes : ByteArray := prog_13_method_93_code
def yX11_goes : MethodName := ⟨RX11, "goes", "(IIZ)Z"⟩
abbrev cX11_netTo : ByteArray := prog_13_method_94_code
def yX11_netTo : MethodName := ⟨RX11, "netTo", "(I)I"⟩
abbrev cX11_net : ByteArray := prog_13_method_95_code
def yX11_net : MethodName := ⟨RX11, "net", "(Z)I"⟩
abbrev cX11_most : ByteArray := prog_13_method_96_code
def yX11_most : MethodName := ⟨RX11, "most", "(I)I"⟩
abbrev cX11_worth : ByteArray := prog_13_method_97_code
def yX11_worth : MethodName := ⟨RX11, "worth", "()I"⟩
abbrev cX11_near : ByteArray := prog_13_method_98_code
def yX11_near : MethodName := ⟨RX11, "nea\x72", "(II)I"⟩
abbrev cX11_layParts : ByteArray := prog_13_method_99_code
def yX11_layParts : MethodName := ⟨RX11, "layParts", "(III)V"⟩
abbrev cX11_layFar : ByteArray := prog_13_method_100_code
def yX11_layFar : MethodName := ⟨RX11, "layFa\x72", "(IZ)V"⟩
abbrev cX11_far : ByteArray := prog_13_method_101_code
def yX11_far : MethodName := ⟨RX11, "fa\x72", "(IZZ)J"⟩
abbrev cX11_loads : ByteArray := prog_13_method_102_code
def yX11_loads : MethodName := ⟨RX11, "loads", "(IZ)I"⟩
abbrev cX11_depot : ByteArray := prog_13_method_103_code
def yX11_depot : MethodName := ⟨RX11, "depot", "(IZIZ)J"⟩
abbrev cX11_convoy : ByteArray := prog_13_method_104_code
def yX11_convoy : MethodName := ⟨RX11, "convoy", "(IZ)J"⟩
abbrev cX11_seekWays : ByteArray := prog_13_method_105_code
def yX11_seekWays : MethodName := ⟨RX11, "seekWays", "(II)V"⟩
abbrev cX11_wayFrom : ByteArray := prog_13_method_106_code
def yX11_wayFrom : MethodName := ⟨RX11, "wayFrom", "(II)V"⟩
abbrev cX11_endWay : ByteArray := prog_13_method_107_code
def yX11_endWay : MethodName := ⟨RX11, "endWay", "(II)V"⟩
abbrev cX11_doesFit : ByteArray := prog_13_method_108_code
def yX11_doesFit : MethodName := ⟨RX11, "doesFit", "(IIII)Z"⟩
abbrev cX11_fits : ByteArray := prog_13_method_109_code
def yX11_fits : MethodName := ⟨RX11, "fits", "()I"⟩
abbrev cX11_fit : ByteArray := prog_13_method_110_code
def yX11_fit : MethodName := ⟨RX11, "fit", "(II)I"⟩
abbrev cX11_went : ByteArray := prog_13_method_111_code
def yX11_went : MethodName := ⟨RX11, "went", "(Z)I"⟩
abbrev cX11_needle : ByteArray := prog_13_method_112_code
def yX11_needle : MethodName := ⟨RX11, "needle", "(Z)I"⟩
abbrev cX11_drawn : ByteArray := prog_13_method_113_code
def yX11_drawn : MethodName := ⟨RX11, "drawn", "(I)I"⟩
abbrev cX11_drawPrice : ByteArray := prog_13_method_114_code
def yX11_drawPrice : MethodName := ⟨RX11, "drawPrice", "(I)I"⟩
abbrev cX11_comes : ByteArray := prog_13_method_115_code
def yX11_comes : MethodName := ⟨RX11, "comes", "(I)V"⟩
abbrev cX11_runBy : ByteArray := prog_13_method_116_code
def yX11_runBy : MethodName := ⟨RX11, "runBy", "(II)I"⟩
abbrev cX11_run : ByteArray := prog_13_method_117_code
def yX11_run : MethodName := ⟨RX11, "run", "(II)I"⟩
abbrev cX11_through : ByteArray := prog_13_method_118_code
def yX11_through : MethodName := ⟨RX11, "through", "(III)I"⟩
abbrev cX11_beats : ByteArray := prog_13_method_119_code
def yX11_beats : MethodName := ⟨RX11, "beats", "(IIII)I"⟩
abbrev cX11_car : ByteArray := prog_13_method_120_code
def yX11_car : MethodName := ⟨RX11, "ca\x72", "(I)I"⟩
abbrev cX11_note : ByteArray := prog_13_method_121_code
def yX11_note : MethodName := ⟨RX11, "note", "()V"⟩
abbrev cX11_fill : ByteArray := prog_13_method_122_code
def yX11_fill : MethodName := ⟨RX11, "fill", "(I)I"⟩
abbrev cX11_drive : ByteArray := prog_13_method_123_code
def yX11_drive : MethodName := ⟨RX11, "drive", "(I)I"⟩
abbrev cX11_waits : ByteArray := prog_13_method_124_code
def yX11_waits : MethodName := ⟨RX11, "waits", "()I"⟩
abbrev cX11_seed : ByteArray := prog_13_method_125_code
def yX11_seed : MethodName := ⟨RX11, "seed", "(I)Z"⟩
abbrev cX11_undo : ByteArray := prog_13_method_126_code
def yX11_undo : MethodName := ⟨RX11, "undo", "()Z"⟩
abbrev cX11_image : ByteArray := prog_13_method_127_code
def yX11_image : MethodName := ⟨RX11, "image", "()I"⟩
abbrev cX11_back : ByteArray := prog_13_method_128_code
def yX11_back : MethodName := ⟨RX11, "back", "(I)Z"⟩
abbrev cX11_led : ByteArray := prog_13_method_129_code
def yX11_led : MethodName := ⟨RX11, "led", "(I)I"⟩
abbrev cX11_size : ByteArray := prog_13_method_130_code
def yX11_size : MethodName := ⟨RX11, "size", "(I)I"⟩
abbrev cX11_trouble : ByteArray := prog_13_method_131_code
def yX11_trouble : MethodName := ⟨RX11, "trouble", "()I"⟩
def RJx145de : String := "java/io/Serializable"
def TJx145de : u_T := fun k => match k with
  | _ => ("", "", "", false)
def tyJx145de : Nat → FieldType := fun k => match k with
  | _ => .int
abbrev wsJx145de0 : List Cond := u_ws RJx145de TJx145de 0
theorem nmJx145de : ∀ a, a < 0 → ∀ b, b < 0 → a ≠ b → (TJx145de a).2.1 ≠ (TJx145de b).2.1 := by decide +kernel
theorem tyJx145de_ok : ∀ k, k < 0 → parseFieldDescriptor (TJx145de k).2.2.1 = some (tyJx145de k) := by decide +kernel
def RJx9f9b0 : String := "java/lang/CharSequence"
def TJx9f9b0 : u_T := fun k => match k with
  | _ => ("", "", "", false)
def tyJx9f9b0 : Nat → FieldType := fun k => match k with
  | _ => .int
abbrev wsJx9f9b00 : List Cond := u_ws RJx9f9b0 TJx9f9b0 0
theorem nmJx9f9b0 : ∀ a, a < 0 → ∀ b, b < 0 → a ≠ b → (TJx9f9b0 a).2.1 ≠ (TJx9f9b0 b).2.1 := by decide +kernel
theorem tyJx9f9b0_ok : ∀ k, k < 0 → parseFieldDescriptor (TJx9f9b0 k).2.2.1 = some (tyJx9f9b0 k) := by decide +kernel
def RJxb160c : String := "java/lang/Comparable"
def TJxb160c : u_T := fun k => match k with
  | _ => ("", "", "", false)
def tyJxb160c : Nat → FieldType := fun k => match k with
  | _ => .int
abbrev wsJxb160c0 : List Cond := u_ws RJxb160c TJxb160c 0
theorem nmJxb160c : ∀ a, a < 0 → ∀ b, b < 0 → a ≠ b → (TJxb160c a).2.1 ≠ (TJxb160c b).2.1 := by decide +kernel
theorem tyJxb160c_ok : ∀ k, k < 0 → parseFieldDescriptor (TJxb160c k).2.2.1 = some (tyJxb160c k) := by decide +kernel
def RJ6 : String := "java/lang/Intege\x72"
def TJ6 : u_T := fun k => match k with
  | _ => ("", "", "", false)
def tyJ6 : Nat → FieldType := fun k => match k with
  | _ => .int
abbrev wsJ60 : List Cond := u_ws RJ6 TJ6 0
theorem nmJ6 : ∀ a, a < 0 → ∀ b, b < 0 → a ≠ b → (TJ6 a).2.1 ≠ (TJ6 b).2.1 := by decide +kernel
theorem tyJ6_ok : ∀ k, k < 0 → parseFieldDescriptor (TJ6 k).2.2.1 = some (tyJ6 k) := by decide +kernel
abbrev cJ6_numberOfLeadingZeros_0f7a4 : ByteArray := prog_18_method_47_code
def yJ6_numberOfLeadingZeros_0f7a4 : MethodName := ⟨RJ6, "numberOfLeadingZeros", "(I)I"⟩
abbrev cJ6_numberOfTrailingZeros_0f7a4 : ByteArray := prog_18_method_48_code
def yJ6_numberOfTrailingZeros_0f7a4 : MethodName := ⟨RJ6, "numberOfTrailingZeros", "(I)I"⟩
def RJ13 : String := "java/lang/Long"
def TJ13 : u_T := fun k => match k with
  | _ => ("", "", "", false)
def tyJ13 : Nat → FieldType := fun k => match k with
  | _ => .int
abbrev wsJ130 : List Cond := u_ws RJ13 TJ13 0
theorem nmJ13 : ∀ a, a < 0 → ∀ b, b < 0 → a ≠ b → (TJ13 a).2.1 ≠ (TJ13 b).2.1 := by decide +kernel
theorem tyJ13_ok : ∀ k, k < 0 → parseFieldDescriptor (TJ13 k).2.2.1 = some (tyJ13 k) := by decide +kernel
abbrev cJ13_numberOfLeadingZeros_95d88 : ByteArray := prog_19_method_48_code
def yJ13_numberOfLeadingZeros_95d88 : MethodName := ⟨RJ13, "numberOfLeadingZeros", "(J)I"⟩
abbrev cJ13_numberOfTrailingZeros_95d88 : ByteArray := prog_19_method_49_code
def yJ13_numberOfTrailingZeros_95d88 : MethodName := ⟨RJ13, "numberOfTrailingZeros", "(J)I"⟩
def RJ9 : String := "java/lang/Math"
def TJ9 : u_T := fun k => match k with
  | _ => ("", "", "", false)
def tyJ9 : Nat → FieldType := fun k => match k with
  | _ => .int
abbrev wsJ90 : List Cond := u_ws RJ9 TJ9 0
theorem nmJ9 : ∀ a, a < 0 → ∀ b, b < 0 → a ≠ b → (TJ9 a).2.1 ≠ (TJ9 b).2.1 := by decide +kernel
theorem tyJ9_ok : ∀ k, k < 0 → parseFieldDescriptor (TJ9 k).2.2.1 = some (tyJ9 k) := by decide +kernel
abbrev cJ9_max_7cf53 : ByteArray := prog_20_method_65_code
def yJ9_max_7cf53 : MethodName := ⟨RJ9, "max", "(II)I"⟩
abbrev cJ9_min_7cf53 : ByteArray := prog_20_method_69_code
def yJ9_min_7cf53 : MethodName := ⟨RJ9, "min", "(II)I"⟩
abbrev cJ9_min_f86c9 : ByteArray := prog_20_method_70_code
def yJ9_min_f86c9 : MethodName := ⟨RJ9, "min", "(JJ)J"⟩
def RJxd2413 : String := "java/lang/Numbe\x72"
def TJxd2413 : u_T := fun k => match k with
  | _ => ("", "", "", false)
def tyJxd2413 : Nat → FieldType := fun k => match k with
  | _ => .int
abbrev wsJxd24130 : List Cond := u_ws RJxd2413 TJxd2413 0
theorem nmJxd2413 : ∀ a, a < 0 → ∀ b, b < 0 → a ≠ b → (TJxd2413 a).2.1 ≠ (TJxd2413 b).2.1 := by decide +kernel
theorem tyJxd2413_ok : ∀ k, k < 0 → parseFieldDescriptor (TJxd2413 k).2.2.1 = some (tyJxd2413 k) := by decide +kernel
def RJ0 : String := "java/lang/String"
def TJ0 : u_T := fun k => match k with
  | _ => ("", "", "", false)
def tyJ0 : Nat → FieldType := fun k => match k with
  | _ => .int
abbrev wsJ00 : List Cond := u_ws RJ0 TJ0 0
theorem nmJ0 : ∀ a, a < 0 → ∀ b, b < 0 → a ≠ b → (TJ0 a).2.1 ≠ (TJ0 b).2.1 := by decide +kernel
theorem tyJ0_ok : ∀ k, k < 0 → parseFieldDescriptor (TJ0 k).2.2.1 = some (tyJ0 k) := by decide +kernel
abbrev cJ0_length_8abf5 : ByteArray := prog_23_method_54_code
def yJ0_length_8abf5 : MethodName := ⟨RJ0, "length", "()I"⟩
abbrev cJ0_charAt_5068e : ByteArray := prog_23_method_56_code
def yJ0_charAt_5068e : MethodName := ⟨RJ0, "charAt", "(I)C"⟩
abbrev cJ0_coder_7d493 : ByteArray := prog_23_method_152_code
def yJ0_coder_7d493 : MethodName := ⟨RJ0, "code\x72", "()B"⟩
abbrev cJ0_isLatin1_aae02 : ByteArray := prog_23_method_154_code
def yJ0_isLatin1_aae02 : MethodName := ⟨RJ0, "isLatin1", "()Z"⟩
abbrev cJ0_checkIndex_df160 : ByteArray := prog_23_method_155_code
def yJ0_checkIndex_df160 : MethodName := ⟨RJ0, "checkIndex", "(II)V"⟩
def RJ1 : String := "java/lang/StringLatin1"
def TJ1 : u_T := fun k => match k with
  | _ => ("", "", "", false)
def tyJ1 : Nat → FieldType := fun k => match k with
  | _ => .int
abbrev wsJ10 : List Cond := u_ws RJ1 TJ1 0
theorem nmJ1 : ∀ a, a < 0 → ∀ b, b < 0 → a ≠ b → (TJ1 a).2.1 ≠ (TJ1 b).2.1 := by decide +kernel
theorem tyJ1_ok : ∀ k, k < 0 → parseFieldDescriptor (TJ1 k).2.2.1 = some (tyJ1 k) := by decide +kernel
abbrev cJ1_charAt_3b067 : ByteArray := prog_24_method_2_code
def yJ1_charAt_3b067 : MethodName := ⟨RJ1, "charAt", "([BI)C"⟩
def RJ2 : String := "java/lang/StringUTF16"
def TJ2 : u_T := fun k => match k with
  | _ => ("", "", "", false)
def tyJ2 : Nat → FieldType := fun k => match k with
  | _ => .int
abbrev wsJ20 : List Cond := u_ws RJ2 TJ2 0
theorem nmJ2 : ∀ a, a < 0 → ∀ b, b < 0 → a ≠ b → (TJ2 a).2.1 ≠ (TJ2 b).2.1 := by decide +kernel
theorem tyJ2_ok : ∀ k, k < 0 → parseFieldDescriptor (TJ2 k).2.2.1 = some (tyJ2 k) := by decide +kernel
abbrev cJ2_getChar_3b067 : ByteArray := prog_25_method_5_code
def yJ2_getChar_3b067 : MethodName := ⟨RJ2, "getCha\x72", "([BI)C"⟩
abbrev cJ2_length_9d52b : ByteArray := prog_25_method_6_code
def yJ2_length_9d52b : MethodName := ⟨RJ2, "length", "([B)I"⟩
abbrev cJ2_charAt_3b067 : ByteArray := prog_25_method_83_code
def yJ2_charAt_3b067 : MethodName := ⟨RJ2, "charAt", "([BI)C"⟩
abbrev cJ2_checkIndex_2214a : ByteArray := prog_25_method_91_code
def yJ2_checkIndex_2214a : MethodName := ⟨RJ2, "checkIndex", "(I[B)V"⟩
def RJ10 : String := "java/lang/System"
def TJ10 : u_T := fun k => match k with
  | _ => ("", "", "", false)
def tyJ10 : Nat → FieldType := fun k => match k with
  | _ => .int
abbrev wsJ100 : List Cond := u_ws RJ10 TJ10 0
theorem nmJ10 : ∀ a, a < 0 → ∀ b, b < 0 → a ≠ b → (TJ10 a).2.1 ≠ (TJ10 b).2.1 := by decide +kernel
theorem tyJ10_ok : ∀ k, k < 0 → parseFieldDescriptor (TJ10 k).2.2.1 = some (tyJ10 k) := by decide +kernel
def RJxfd54e : String := "java/lang/constant/Constable"
def TJxfd54e : u_T := fun k => match k with
  | _ => ("", "", "", false)
def tyJxfd54e : Nat → FieldType := fun k => match k with
  | _ => .int
abbrev wsJxfd54e0 : List Cond := u_ws RJxfd54e TJxfd54e 0
theorem nmJxfd54e : ∀ a, a < 0 → ∀ b, b < 0 → a ≠ b → (TJxfd54e a).2.1 ≠ (TJxfd54e b).2.1 := by decide +kernel
theorem tyJxfd54e_ok : ∀ k, k < 0 → parseFieldDescriptor (TJxfd54e k).2.2.1 = some (tyJxfd54e k) := by decide +kernel
def RJx3cf43 : String := "java/lang/constant/ConstantDesc"
def TJx3cf43 : u_T := fun k => match k with
  | _ => ("", "", "", false)
def tyJx3cf43 : Nat → FieldType := fun k => match k with
  | _ => .int
abbrev wsJx3cf430 : List Cond := u_ws RJx3cf43 TJx3cf43 0
theorem nmJx3cf43 : ∀ a, a < 0 → ∀ b, b < 0 → a ≠ b → (TJx3cf43 a).2.1 ≠ (TJx3cf43 b).2.1 := by decide +kernel
theorem tyJx3cf43_ok : ∀ k, k < 0 → parseFieldDescriptor (TJx3cf43 k).2.2.1 = some (tyJx3cf43 k) := by decide +kernel
def RJ7 : String := "java/util/Arrays"
def TJ7 : u_T := fun k => match k with
  | _ => ("", "", "", false)
def tyJ7 : Nat → FieldType := fun k => match k with
  | _ => .int
abbrev wsJ70 : List Cond := u_ws RJ7 TJ7 0
theorem nmJ7 : ∀ a, a < 0 → ∀ b, b < 0 → a ≠ b → (TJ7 a).2.1 ≠ (TJ7 b).2.1 := by decide +kernel
theorem tyJ7_ok : ∀ k, k < 0 → parseFieldDescriptor (TJ7 k).2.2.1 = some (tyJ7 k) := by decide +kernel
abbrev cJ7_fill_d0a16 : ByteArray := prog_30_method_101_code
def yJ7_fill_d0a16 : MethodName := ⟨RJ7, "fill", "([JJ)V"⟩
abbrev cJ7_fill_53178 : ByteArray := prog_30_method_103_code
def yJ7_fill_53178 : MethodName := ⟨RJ7, "fill", "([II)V"⟩
def RJ3 : String := "jdk/internal/util/Preconditions"
def TJ3 : u_T := fun k => match k with
  | _ => ("", "", "", false)
def tyJ3 : Nat → FieldType := fun k => match k with
  | _ => .int
abbrev wsJ30 : List Cond := u_ws RJ3 TJ3 0
theorem nmJ3 : ∀ a, a < 0 → ∀ b, b < 0 → a ≠ b → (TJ3 a).2.1 ≠ (TJ3 b).2.1 := by decide +kernel
theorem tyJ3_ok : ∀ k, k < 0 → parseFieldDescriptor (TJ3 k).2.2.1 = some (tyJ3 k) := by decide +kernel
abbrev cJ3_checkIndex_8e157 : ByteArray := prog_32_method_11_code
def yJ3_checkIndex_8e157 : MethodName := ⟨RJ3, "checkIndex", "(IILjava/util/function/BiFunction;)I"⟩
def RL : String := "LastsToNextLaw"
abbrev cL_led : ByteArray := method_3_code
def yL_led : MethodName := ⟨RL, "led", "(LLastsToNext;I[J)I"⟩
abbrev cL_law : ByteArray := code
def yL_law : MethodName := ⟨RL, "law", "([I)Z"⟩
def wsL_led_r1 : List Cond := [Cond.classLink RL 13 "java/util/NoSuchElementException", Cond.methodLink RL 7 yX10_led, Cond.instanceMethod yX10_led, Cond.selects RX10 yX10_led yX10_led, Cond.initialized RX10, Cond.code yX10_led cX10_led 3 (some .int), Cond.classLink RX10 354 "java/util/NoSuchElementException", Cond.initialized "java/util/NoSuchElementException", Cond.fieldLink RX10 61 "LastsToNext" "journey" "LLastsToNext$Journey;", Cond.fieldLink RX10 16 "LastsToNext" "road" "LLastsToNext$Road;", Cond.methodLink RX10 351 yX3_openPlace, Cond.instanceMethod yX3_openPlace, Cond.selects RX3 yX3_openPlace yX3_openPlace, Cond.initialized RX3, Cond.code yX3_openPlace cX3_openPlace 5 (some .int), Cond.fieldLink RX3 97 "LastsToNext$Road" "places" "I", Cond.methodLink RX3 100 yX3_canGo, Cond.instanceMethod yX3_canGo, Cond.selects RX3 yX3_canGo yX3_canGo, Cond.code yX3_canGo cX3_canGo 3 (some .boolean), Cond.fieldLink RX3 11 "LastsToNext$Journey" "now" "[I", Cond.methodLink RX3 87 yX9_isRoad, Cond.instanceMethod yX9_isRoad, Cond.selects RX9 yX9_isRoad yX9_isRoad]
def wsL_led_r2 : List Cond := [Cond.initialized RX9, Cond.code yX9_isRoad cX9_isRoad 3 (some .boolean), Cond.methodLink RX9 76 yX9_pintsOf, Cond.instanceMethod yX9_pintsOf, Cond.selects RX9 yX9_pintsOf yX9_pintsOf, Cond.code yX9_pintsOf cX9_pintsOf 3 (some .int), Cond.fieldLink RX9 9 "LastsToNext$Road" "pints" "[I", Cond.methodLink RX3 91 yX9_pintsOf]
def wsL_led : List Cond := .codeWith yL_led cL_led 4 (some .int) [(0, 9, 12, 13)] :: ((wsL_led_r1 ++ wsL_led_r2) ++ wsX100 ++ wsX90 ++ wsX30 ++ (vx_atS RX10 358 "java/util/NoSuchElementException" ["java/lang/RuntimeException", "java/lang/Exception"]).filter goodWord)
def wsL_law0_r1 : List Cond := [Cond.classLink RL 8 RX10, Cond.instantiable RX10 14, Cond.initialized RX10, Cond.classLink RL 16 RX11, Cond.instantiable RX11 41, Cond.initialized RX11, Cond.arrayClass .long, Cond.methodLink RL 15 yX10_init, Cond.instanceMethod yX10_init, Cond.code yX10_init cX10_init 1 none, Cond.methodLink RX10 3 objectInit, Cond.instanceMethod objectInit, Cond.code objectInit ⟨#[0xb1]⟩ 1 none, Cond.arrayClass .byte, Cond.fieldLink RX10 9 "LastsToNext" "tape" "[B", Cond.classLink RX10 13 RX9, Cond.instantiable RX9 19, Cond.initialized RX9, Cond.fieldLink RX10 16 "LastsToNext" "road" "LLastsToNext$Road;", Cond.fieldLink RX10 20 "LastsToNext" "spare" "LLastsToNext$Road;", Cond.classLink RX10 23 RX7, Cond.instantiable RX7 11, Cond.initialized RX7, Cond.fieldLink RX10 26 "LastsToNext" "reade\x72" "LLastsToNext$Reader;"]
def wsL_law0_r2 : List Cond := [Cond.classLink RX10 30 RX6, Cond.instantiable RX6 4, Cond.initialized RX6, Cond.fieldLink RX10 33 "LastsToNext" "plans" "LLastsToNext$Plans;", Cond.classLink RX10 37 RX1, Cond.instantiable RX1 6, Cond.initialized RX1, Cond.fieldLink RX10 40 "LastsToNext" "drivers" "LLastsToNext$Drivers;", Cond.classLink RX10 44 RX5, Cond.instantiable RX5 3, Cond.initialized RX5, Cond.fieldLink RX10 47 "LastsToNext" "net" "LLastsToNext$Net;", Cond.classLink RX10 51 RX8, Cond.instantiable RX8 8, Cond.initialized RX8, Cond.fieldLink RX10 54 "LastsToNext" "receipts" "LLastsToNext$Receipts;", Cond.classLink RX10 58 RX3, Cond.instantiable RX3 7, Cond.initialized RX3, Cond.fieldLink RX10 61 "LastsToNext" "journey" "LLastsToNext$Journey;", Cond.classLink RX10 65 RX2, Cond.instantiable RX2 2, Cond.initialized RX2, Cond.fieldLink RX10 68 "LastsToNext" "fraction" "LLastsToNext$Fraction;"]
def wsL_law0_r3 : List Cond := [Cond.instanceMethod yX9_init, Cond.code yX9_init cX9_init 1 none, Cond.methodLink RX9 3 objectInit, Cond.arrayClass .int, Cond.fieldLink RX9 9 "LastsToNext$Road" "pints" "[I", Cond.fieldLink RX9 15 "LastsToNext$Road" "minutes" "[I", Cond.fieldLink RX9 18 "LastsToNext$Road" "first" "[I", Cond.fieldLink RX9 21 "LastsToNext$Road" "second" "[I", Cond.fieldLink RX9 24 "LastsToNext$Road" "shut" "[I", Cond.fieldLink RX9 27 "LastsToNext$Road" "way" "[I", Cond.fieldLink RX9 30 "LastsToNext$Road" "upTo" "[I", Cond.fieldLink RX9 33 "LastsToNext$Road" "receiptPlace" "[I", Cond.fieldLink RX9 36 "LastsToNext$Road" "receiptPence" "[I", Cond.instanceMethod yX7_init, Cond.code yX7_init cX7_init 1 none, Cond.methodLink RX7 3 objectInit, Cond.fieldLink RX7 9 "LastsToNext$Reade\x72" "text" "[B", Cond.classLink RX7 15 RX9, Cond.fieldLink RX7 18 "LastsToNext$Reade\x72" "road" "LLastsToNext$Road;", Cond.fieldLink RX7 22 "LastsToNext$Reade\x72" "nameFrom" "[I", Cond.fieldLink RX7 26 "LastsToNext$Reade\x72" "nameTo" "[I", Cond.instanceMethod yX6_init, Cond.code yX6_init cX6_init 1 none, Cond.methodLink RX6 3 objectInit]
def wsL_law0_r4 : List Cond := [Cond.fieldLink RX6 9 "LastsToNext$Plans" "planned" "[I", Cond.fieldLink RX6 15 "LastsToNext$Plans" "ahead" "[J", Cond.classLink RX6 19 "[[I", Cond.fieldLink RX6 21 "LastsToNext$Plans" "choices" "[[I", Cond.classLink RX6 24 "[[J", Cond.fieldLink RX6 26 "LastsToNext$Plans" "byStops" "[[J", Cond.instanceMethod yX1_init, Cond.code yX1_init cX1_init 1 none, Cond.methodLink RX1 3 objectInit, Cond.classLink RX1 9 RX0, Cond.instantiable RX0 1, Cond.initialized RX0, Cond.fieldLink RX1 12 "LastsToNext$Drivers" "draws" "LLastsToNext$Draws;", Cond.fieldLink RX1 18 "LastsToNext$Drivers" "ahead" "[J", Cond.fieldLink RX1 22 "LastsToNext$Drivers" "choice" "[I", Cond.fieldLink RX1 26 "LastsToNext$Drivers" "dearChoice" "[I", Cond.instanceMethod yX0_init, Cond.code yX0_init cX0_init 1 none, Cond.methodLink RX0 3 objectInit, Cond.instanceMethod yX5_init, Cond.code yX5_init cX5_init 1 none, Cond.methodLink RX5 3 objectInit, Cond.classLink RX5 9 "[[I", Cond.fieldLink RX5 11 "LastsToNext$Net" "coming" "[[I"]
def wsL_law0_r5 : List Cond := [Cond.fieldLink RX5 16 "LastsToNext$Net" "going" "[I", Cond.fieldLink RX5 20 "LastsToNext$Net" "level" "[I", Cond.instanceMethod yX8_init, Cond.code yX8_init cX8_init 1 none, Cond.methodLink RX8 3 objectInit, Cond.fieldLink RX8 9 "LastsToNext$Receipts" "picked" "[I", Cond.fieldLink RX8 15 "LastsToNext$Receipts" "row" "[I", Cond.instanceMethod yX3_init, Cond.code yX3_init cX3_init 1 none, Cond.methodLink RX3 3 objectInit, Cond.fieldLink RX3 11 "LastsToNext$Journey" "now" "[I", Cond.classLink RX3 15 "[[I", Cond.fieldLink RX3 17 "LastsToNext$Journey" "kept" "[[I", Cond.fieldLink RX3 20 "LastsToNext$Journey" "images" "[[I", Cond.classLink RX3 23 RX0, Cond.fieldLink RX3 26 "LastsToNext$Journey" "draws" "LLastsToNext$Draws;", Cond.instanceMethod yX2_init, Cond.code yX2_init cX2_init 1 none, Cond.methodLink RX2 1 objectInit, Cond.fieldLink RX2 7 "LastsToNext$Fraction" "lowe\x72" "J", Cond.methodLink RL 18 yX11_init, Cond.instanceMethod yX11_init, Cond.code yX11_init cX11_init 1 none, Cond.methodLink RX11 1 objectInit]
def wsL_law0_r6 : List Cond := [Cond.fieldLink RX11 7 "LastsToNextModel" "tape" "[I", Cond.fieldLink RX11 13 "LastsToNextModel" "place" "I", Cond.fieldLink RX11 17 "LastsToNextModel" "letters" "[I", Cond.fieldLink RX11 20 "LastsToNextModel" "\x72" "[I", Cond.fieldLink RX11 23 "LastsToNextModel" "fresh" "[I", Cond.fieldLink RX11 26 "LastsToNextModel" "planned" "[I", Cond.fieldLink RX11 29 "LastsToNextModel" "st" "[I", Cond.fieldLink RX11 32 "LastsToNextModel" "undone" "[I", Cond.fieldLink RX11 35 "LastsToNextModel" "kept" "[I", Cond.fieldLink RX11 38 "LastsToNextModel" "least" "[I", Cond.fieldLink RX11 41 "LastsToNextModel" "buys1" "[I", Cond.fieldLink RX11 44 "LastsToNextModel" "byStops" "[I", Cond.fieldLink RX11 47 "LastsToNextModel" "means" "[J", Cond.fieldLink RX11 51 "LastsToNextModel" "net" "[I", Cond.fieldLink RX11 54 "LastsToNextModel" "bought1" "[I", Cond.fieldLink RX11 57 "LastsToNextModel" "fa\x72" "[I", Cond.fieldLink RX11 60 "LastsToNextModel" "row" "[I", Cond.fieldLink RX11 63 "LastsToNextModel" "found" "[I", Cond.methodLink RL 19 yX10_feed, Cond.instanceMethod yX10_feed, Cond.selects RX10 yX10_feed yX10_feed, Cond.code yX10_feed cX10_feed 6 (some .int), Cond.fieldLink RX10 72 "LastsToNext" "taped" "I", Cond.methodLink RX10 76 yX10_putBytes]
def wsL_law0_r7 : List Cond := [Cond.instanceMethod yX10_putBytes, Cond.selects RX10 yX10_putBytes yX10_putBytes, Cond.code yX10_putBytes cX10_putBytes 3 none, Cond.methodLink RL 23 yX11_feed, Cond.instanceMethod yX11_feed, Cond.selects RX11 yX11_feed yX11_feed, Cond.code yX11_feed cX11_feed 8 (some .int), Cond.fieldLink RX11 66 "LastsToNextModel" "thrown" "I", Cond.fieldLink RX11 76 "LastsToNextModel" "taped" "I", Cond.methodLink RL 24 yX10_road, Cond.instanceMethod yX10_road, Cond.selects RX10 yX10_road yX10_road, Cond.code yX10_road cX10_road 4 (some .int), Cond.fieldLink RX10 88 "LastsToNext$Reade\x72" "fault" "I", Cond.fieldLink RX10 91 "LastsToNext" "fault" "I", Cond.fieldLink RX10 92 "LastsToNext$Reade\x72" "faultPlace" "I", Cond.fieldLink RX10 95 "LastsToNext" "faultPlace" "I", Cond.fieldLink RX10 103 "LastsToNext$Road" "stations" "I", Cond.methodLink RX10 80 yX10_refuse, Cond.instanceMethod yX10_refuse, Cond.selects RX10 yX10_refuse yX10_refuse, Cond.code yX10_refuse cX10_refuse 2 (some .int), Cond.fieldLink RX10 109 "LastsToNext" "trouble" "I", Cond.methodLink RX10 84 yX7_readRoad]
def wsL_law0_r8 : List Cond := [Cond.instanceMethod yX7_readRoad, Cond.selects RX7 yX7_readRoad yX7_readRoad, Cond.code yX7_readRoad cX7_readRoad 5 (some .boolean), Cond.fieldLink RX7 29 "LastsToNext$Reade\x72" "end" "I", Cond.fieldLink RX7 36 "LastsToNext$Reade\x72" "fault" "I", Cond.fieldLink RX7 39 "LastsToNext$Reade\x72" "faultPlace" "I", Cond.fieldLink RX7 42 "LastsToNext$Reade\x72" "to" "I", Cond.fieldLink RX7 52 "LastsToNext$Reade\x72" "kind" "I", Cond.methodLink RX7 33 yX9_clear, Cond.instanceMethod yX9_clear, Cond.selects RX9 yX9_clear yX9_clear, Cond.code yX9_clear cX9_clear 1 none, Cond.fieldLink RX9 39 "LastsToNext$Road" "tank" "I", Cond.fieldLink RX9 43 "LastsToNext$Road" "has" "I", Cond.fieldLink RX9 46 "LastsToNext$Road" "stopPence" "I", Cond.fieldLink RX9 49 "LastsToNext$Road" "stopMinutes" "I", Cond.fieldLink RX9 52 "LastsToNext$Road" "stuck" "I", Cond.fieldLink RX9 55 "LastsToNext$Road" "places" "I", Cond.fieldLink RX9 58 "LastsToNext$Road" "roads" "I", Cond.fieldLink RX9 61 "LastsToNext$Road" "pumps" "I", Cond.fieldLink RX9 64 "LastsToNext$Road" "stations" "I", Cond.fieldLink RX9 67 "LastsToNext$Road" "receipts" "I", Cond.methodLink RX9 70 yJ7_fill_53178, Cond.static yJ7_fill_53178]
def wsL_law0_r9 : List Cond := [Cond.initialized RJ7, Cond.code yJ7_fill_53178 cJ7_fill_53178 4 none, Cond.methodLink RX7 45 yX7_lookOn, Cond.instanceMethod yX7_lookOn, Cond.selects RX7 yX7_lookOn yX7_lookOn, Cond.code yX7_lookOn cX7_lookOn 4 none, Cond.fieldLink RX7 148 "LastsToNext$Reade\x72" "from" "I", Cond.methodLink RX7 207 Lib.Math.max.name, Cond.static Lib.Math.max.name, Cond.initialized "java/lang/Math", Cond.code Lib.Math.max.name Lib.Math.max.code 2 (some .int), Cond.methodLink RX7 203 yX7_runLength, Cond.instanceMethod yX7_runLength, Cond.selects RX7 yX7_runLength yX7_runLength, Cond.code yX7_runLength cX7_runLength 4 (some .int), Cond.methodLink RX7 48 yX7_readLine, Cond.instanceMethod yX7_readLine, Cond.selects RX7 yX7_readLine yX7_readLine, Cond.code yX7_readLine cX7_readLine 1 (some .boolean), Cond.fieldLink RX7 72 "LastsToNext$Road" "tank" "I", Cond.fieldLink RX7 87 "LastsToNext$Road" "places" "I", Cond.fieldLink RX7 93 "LastsToNext$Road" "roads" "I", Cond.fieldLink RX7 99 "LastsToNext$Road" "pumps" "I", Cond.fieldLink RX7 108 "LastsToNext$Road" "receipts" "I"]
def wsL_law0_r10 : List Cond := [Cond.methodLink RX7 68 yX7_isWord, Cond.instanceMethod yX7_isWord, Cond.selects RX7 yX7_isWord yX7_isWord, Cond.code yX7_isWord cX7_isWord 3 (some .boolean), Cond.methodLink RX7 212 yJ0_length_8abf5, Cond.instanceMethod yJ0_length_8abf5, Cond.selects RJ0 yJ0_length_8abf5 yJ0_length_8abf5, Cond.initialized RJ0, Cond.code yJ0_length_8abf5 cJ0_length_8abf5 1 (some .int), Cond.fieldLink RJ0 9 "java/lang/String" "value" "[B", Cond.methodLink RJ0 335 yJ0_coder_7d493, Cond.instanceMethod yJ0_coder_7d493, Cond.selects RJ0 yJ0_coder_7d493 yJ0_coder_7d493, Cond.code yJ0_coder_7d493 cJ0_coder_7d493 1 (some .byte), Cond.fieldLink RJ0 38 "java/lang/String" "COMPACT_STRINGS" "Z", Cond.fieldLink RJ0 15 "java/lang/String" "code\x72" "B", Cond.methodLink RX7 217 yJ0_charAt_5068e, Cond.instanceMethod yJ0_charAt_5068e, Cond.selects RJ0 yJ0_charAt_5068e yJ0_charAt_5068e, Cond.code yJ0_charAt_5068e cJ0_charAt_5068e 2 (some .char), Cond.methodLink RJ0 492 yJ0_isLatin1_aae02, Cond.instanceMethod yJ0_isLatin1_aae02, Cond.selects RJ0 yJ0_isLatin1_aae02 yJ0_isLatin1_aae02, Cond.code yJ0_isLatin1_aae02 cJ0_isLatin1_aae02 1 (some .boolean)]
def wsL_law0_r11 : List Cond := [Cond.methodLink RJ0 495 yJ1_charAt_3b067, Cond.static yJ1_charAt_3b067, Cond.initialized RJ1, Cond.code yJ1_charAt_3b067 cJ1_charAt_3b067 2 (some .char), Cond.methodLink RJ1 9 yJ0_checkIndex_df160, Cond.static yJ0_checkIndex_df160, Cond.code yJ0_checkIndex_df160 cJ0_checkIndex_df160 2 none, Cond.fieldLink RJ0 1053 "jdk/internal/util/Preconditions" "SIOOBE_FORMATTER" "Ljava/util/function/BiFunction;", Cond.methodLink RJ0 1059 yJ3_checkIndex_8e157, Cond.static yJ3_checkIndex_8e157, Cond.initialized RJ3, Cond.code yJ3_checkIndex_8e157 cJ3_checkIndex_8e157 3 (some .int), Cond.methodLink RJ0 498 yJ2_charAt_3b067, Cond.static yJ2_charAt_3b067, Cond.initialized RJ2, Cond.code yJ2_charAt_3b067 cJ2_charAt_3b067 2 (some .char), Cond.methodLink RJ2 67 yJ2_checkIndex_2214a, Cond.static yJ2_checkIndex_2214a, Cond.code yJ2_checkIndex_2214a cJ2_checkIndex_2214a 2 none, Cond.methodLink RJ2 48 yJ2_length_9d52b, Cond.static yJ2_length_9d52b, Cond.code yJ2_length_9d52b cJ2_length_9d52b 1 (some .int), Cond.methodLink RJ2 414 yJ0_checkIndex_df160, Cond.methodLink RJ2 71 yJ2_getChar_3b067]
def wsL_law0_r12 : List Cond := [Cond.static yJ2_getChar_3b067, Cond.code yJ2_getChar_3b067 cJ2_getChar_3b067 2 (some .char), Cond.fieldLink RJ2 44 "java/lang/StringUTF16" "$assertionsDisabled" "Z", Cond.fieldLink RJ2 59 "java/lang/StringUTF16" "HI_BYTE_SHIFT" "I", Cond.fieldLink RJ2 63 "java/lang/StringUTF16" "LO_BYTE_SHIFT" "I", Cond.methodLink RX7 58 yX7_failWith, Cond.instanceMethod yX7_failWith, Cond.selects RX7 yX7_failWith yX7_failWith, Cond.code yX7_failWith cX7_failWith 2 (some .boolean), Cond.methodLink RX7 172 yX7_failAt, Cond.instanceMethod yX7_failAt, Cond.selects RX7 yX7_failAt yX7_failAt, Cond.code yX7_failAt cX7_failAt 3 (some .boolean), Cond.methodLink RX7 75 yX7_readCar, Cond.instanceMethod yX7_readCar, Cond.selects RX7 yX7_readCar yX7_readCar, Cond.code yX7_readCar cX7_readCar 2 (some .boolean), Cond.fieldLink RX7 122 "LastsToNext$Reade\x72" "value" "I", Cond.fieldLink RX7 127 "LastsToNext$Road" "has" "I", Cond.fieldLink RX7 131 "LastsToNext$Road" "stopPence" "I", Cond.fieldLink RX7 134 "LastsToNext$Road" "stopMinutes" "I", Cond.fieldLink RX7 139 "LastsToNext$Road" "stuck" "I", Cond.methodLink RX7 115 yX7_passWord, Cond.instanceMethod yX7_passWord]
def wsL_law0_r13 : List Cond := [Cond.selects RX7 yX7_passWord yX7_passWord, Cond.code yX7_passWord cX7_passWord 2 (some .boolean), Cond.methodLink RX7 118 yX7_passWhole, Cond.instanceMethod yX7_passWhole, Cond.selects RX7 yX7_passWhole yX7_passWhole, Cond.code yX7_passWhole cX7_passWhole 4 (some .boolean), Cond.methodLink RX7 62 yX7_passSign, Cond.instanceMethod yX7_passSign, Cond.selects RX7 yX7_passSign yX7_passSign, Cond.code yX7_passSign cX7_passSign 2 (some .boolean), Cond.methodLink RX7 191 yX7_isSign, Cond.instanceMethod yX7_isSign, Cond.selects RX7 yX7_isSign yX7_isSign, Cond.code yX7_isSign cX7_isSign 2 (some .boolean), Cond.methodLink RX7 90 yX7_readPlace, Cond.instanceMethod yX7_readPlace, Cond.selects RX7 yX7_readPlace yX7_readPlace, Cond.code yX7_readPlace cX7_readPlace 1 (some .boolean), Cond.methodLink RX7 141 yX7_isName, Cond.instanceMethod yX7_isName, Cond.selects RX7 yX7_isName yX7_isName, Cond.code yX7_isName cX7_isName 1 (some .boolean), Cond.methodLink RX7 144 yX7_placeNamed, Cond.instanceMethod yX7_placeNamed]
def wsL_law0_r14 : List Cond := [Cond.selects RX7 yX7_placeNamed yX7_placeNamed, Cond.code yX7_placeNamed cX7_placeNamed 2 (some .int), Cond.methodLink RX7 221 yX7_isSameName, Cond.instanceMethod yX7_isSameName, Cond.selects RX7 yX7_isSameName yX7_isSameName, Cond.code yX7_isSameName cX7_isSameName 4 (some .boolean), Cond.methodLink RX7 96 yX7_readRoadBetween, Cond.instanceMethod yX7_readRoadBetween, Cond.selects RX7 yX7_readRoadBetween yX7_readRoadBetween, Cond.code yX7_readRoadBetween cX7_readRoadBetween 4 (some .boolean), Cond.methodLink RX7 151 yX7_isToldName, Cond.instanceMethod yX7_isToldName, Cond.selects RX7 yX7_isToldName yX7_isToldName, Cond.code yX7_isToldName cX7_isToldName 1 (some .boolean), Cond.methodLink RX7 154 yX9_isRoad, Cond.instanceMethod yX9_isRoad, Cond.selects RX9 yX9_isRoad yX9_isRoad, Cond.code yX9_isRoad cX9_isRoad 3 (some .boolean), Cond.methodLink RX9 76 yX9_pintsOf, Cond.instanceMethod yX9_pintsOf, Cond.selects RX9 yX9_pintsOf yX9_pintsOf, Cond.code yX9_pintsOf cX9_pintsOf 3 (some .int), Cond.methodLink RX7 161 yX9_addRoad, Cond.instanceMethod yX9_addRoad]
def wsL_law0_r15 : List Cond := [Cond.selects RX9 yX9_addRoad yX9_addRoad, Cond.code yX9_addRoad cX9_addRoad 5 none, Cond.methodLink RX7 102 yX7_readPump, Cond.instanceMethod yX7_readPump, Cond.selects RX7 yX7_readPump yX7_readPump, Cond.code yX7_readPump cX7_readPump 3 (some .boolean), Cond.fieldLink RX7 165 "LastsToNext$Road" "first" "[I", Cond.fieldLink RX7 175 "LastsToNext$Road" "second" "[I", Cond.fieldLink RX7 180 "LastsToNext$Road" "shut" "[I", Cond.methodLink RX7 55 yX9_isTold, Cond.instanceMethod yX9_isTold, Cond.selects RX9 yX9_isTold yX9_isTold, Cond.code yX9_isTold cX9_isTold 1 (some .boolean), Cond.methodLink RX7 105 yX7_readWay, Cond.instanceMethod yX7_readWay, Cond.selects RX7 yX7_readWay yX7_readWay, Cond.code yX7_readWay cX7_readWay 5 (some .boolean), Cond.fieldLink RX7 182 "LastsToNext$Road" "way" "[I", Cond.fieldLink RX7 184 "LastsToNext$Road" "upTo" "[I", Cond.fieldLink RX7 194 "LastsToNext$Road" "stations" "I", Cond.methodLink RX7 187 yX9_pintsOf, Cond.methodLink RX7 111 yX7_readReceipt, Cond.instanceMethod yX7_readReceipt, Cond.selects RX7 yX7_readReceipt yX7_readReceipt]
def wsL_law0_r16 : List Cond := [Cond.code yX7_readReceipt cX7_readReceipt 2 (some .boolean), Cond.fieldLink RX7 197 "LastsToNext$Road" "receiptPlace" "[I", Cond.fieldLink RX7 200 "LastsToNext$Road" "receiptPence" "[I", Cond.methodLink RX10 96 yX6_forget, Cond.instanceMethod yX6_forget, Cond.selects RX6 yX6_forget yX6_forget, Cond.code yX6_forget cX6_forget 1 none, Cond.methodLink RX6 29 yJ7_fill_53178, Cond.methodLink RX10 99 yX3_begin, Cond.instanceMethod yX3_begin, Cond.selects RX3 yX3_begin yX3_begin, Cond.code yX3_begin cX3_begin 2 none, Cond.fieldLink RX3 30 "LastsToNext$Journey" "undoable" "I", Cond.fieldLink RX3 34 "LastsToNext$Journey" "pictured" "I", Cond.fieldLink RX3 49 "LastsToNext$Road" "has" "I", Cond.methodLink RX3 37 yJ7_fill_53178, Cond.methodLink RX3 43 yX9_start, Cond.instanceMethod yX9_start, Cond.selects RX9 yX9_start yX9_start, Cond.code yX9_start cX9_start 1 (some .int), Cond.methodLink RX3 52 yX3_seePump, Cond.instanceMethod yX3_seePump, Cond.selects RX3 yX3_seePump yX3_seePump, Cond.code yX3_seePump cX3_seePump 2 none]
def wsL_law0_r17 : List Cond := [Cond.fieldLink RX3 56 "LastsToNext$Draws" "seed" "I", Cond.methodLink RX3 59 yX0_priceSeen, Cond.instanceMethod yX0_priceSeen, Cond.selects RX0 yX0_priceSeen yX0_priceSeen, Cond.code yX0_priceSeen cX0_priceSeen 5 (some .int), Cond.fieldLink RX0 16 "LastsToNext$Road" "first" "[I", Cond.fieldLink RX0 26 "LastsToNext$Road" "shut" "[I", Cond.fieldLink RX0 29 "LastsToNext$Road" "second" "[I", Cond.methodLink RX0 22 yX0_next, Cond.instanceMethod yX0_next, Cond.selects RX0 yX0_next yX0_next, Cond.code yX0_next cX0_next 1 (some .int), Cond.fieldLink RX0 9 "LastsToNext$Draws" "seed" "I", Cond.constant RX0 15 (65537), Cond.methodLink RX10 106 yX10_accept, Cond.instanceMethod yX10_accept, Cond.selects RX10 yX10_accept yX10_accept, Cond.code yX10_accept cX10_accept 2 (some .int), Cond.methodLink RL 27 yX11_road, Cond.instanceMethod yX11_road, Cond.selects RX11 yX11_road yX11_road, Cond.code yX11_road cX11_road 3 (some .int), Cond.fieldLink RX11 112 "LastsToNextModel" "fault" "I", Cond.fieldLink RX11 108 "LastsToNextModel" "failed" "Z"]
def wsL_law0_r18 : List Cond := [Cond.fieldLink RX11 79 "LastsToNextModel" "size" "I", Cond.fieldLink RX11 82 "LastsToNextModel" "end" "I", Cond.fieldLink RX11 98 "LastsToNextModel" "token" "I", Cond.fieldLink RX11 89 "LastsToNextModel" "at" "I", Cond.fieldLink RX11 189 "LastsToNextModel" "hasRoad" "Z", Cond.fieldLink RX11 192 "LastsToNextModel" "undos" "I", Cond.fieldLink RX11 195 "LastsToNextModel" "images" "I", Cond.methodLink RX11 176 yX11_good, Cond.instanceMethod yX11_good, Cond.selects RX11 yX11_good yX11_good, Cond.code yX11_good cX11_good 1 none, Cond.fieldLink RX11 69 "LastsToNextModel" "trouble" "I", Cond.methodLink RX11 161 yX11_in, Cond.static yX11_in, Cond.code yX11_in cX11_in 3 (some .boolean), Cond.methodLink RX11 179 yX11_no, Cond.instanceMethod yX11_no, Cond.selects RX11 yX11_no yX11_no, Cond.code yX11_no cX11_no 2 (some .int), Cond.methodLink RX11 129 yX11_next, Cond.instanceMethod yX11_next, Cond.selects RX11 yX11_next yX11_next, Cond.code yX11_next cX11_next 4 none, Cond.fieldLink RX11 92 "LastsToNextModel" "nameSize" "I"]
def wsL_law0_r19 : List Cond := [Cond.fieldLink RX11 95 "LastsToNextModel" "whole" "I", Cond.methodLink RX11 85 yX11_look, Cond.instanceMethod yX11_look, Cond.selects RX11 yX11_look yX11_look, Cond.code yX11_look cX11_look 2 (some .int), Cond.methodLink RX11 101 yX11_isSmall, Cond.static yX11_isSmall, Cond.code yX11_isSmall cX11_isSmall 1 (some .boolean), Cond.methodLink RX11 105 yX11_isDigit, Cond.static yX11_isDigit, Cond.code yX11_isDigit cX11_isDigit 1 (some .boolean), Cond.methodLink RX11 182 yX11_readLine, Cond.instanceMethod yX11_readLine, Cond.selects RX11 yX11_readLine yX11_readLine, Cond.code yX11_readLine cX11_readLine 1 none, Cond.methodLink RX11 125 yX11_isWord, Cond.instanceMethod yX11_isWord, Cond.selects RX11 yX11_isWord yX11_isWord, Cond.code yX11_isWord cX11_isWord 4 (some .boolean), Cond.methodLink RX11 115 yJ0_length_8abf5, Cond.methodLink RX11 121 yJ0_charAt_5068e, Cond.methodLink RX11 202 yX11_carLine, Cond.instanceMethod yX11_carLine, Cond.selects RX11 yX11_carLine yX11_carLine]
def wsL_law0_r20 : List Cond := [Cond.code yX11_carLine cX11_carLine 1 none, Cond.methodLink RX11 135 yX11_wrong, Cond.instanceMethod yX11_wrong, Cond.selects RX11 yX11_wrong yX11_wrong, Cond.code yX11_wrong cX11_wrong 3 none, Cond.methodLink RX11 226 yX11_after, Cond.instanceMethod yX11_after, Cond.selects RX11 yX11_after yX11_after, Cond.code yX11_after cX11_after 4 (some .int), Cond.methodLink RX11 169 yX11_must, Cond.instanceMethod yX11_must, Cond.selects RX11 yX11_must yX11_must, Cond.code yX11_must cX11_must 2 none, Cond.methodLink RX11 132 yX11_takesWord, Cond.instanceMethod yX11_takesWord, Cond.selects RX11 yX11_takesWord yX11_takesWord, Cond.code yX11_takesWord cX11_takesWord 2 (some .boolean), Cond.methodLink RX11 173 yX11_number, Cond.instanceMethod yX11_number, Cond.selects RX11 yX11_number yX11_number, Cond.code yX11_number cX11_number 4 (some .int), Cond.methodLink RX11 165 yX11_numberHere, Cond.instanceMethod yX11_numberHere, Cond.selects RX11 yX11_numberHere yX11_numberHere]
def wsL_law0_r21 : List Cond := [Cond.code yX11_numberHere cX11_numberHere 3 (some .int), Cond.methodLink RX11 234 yX11_comma, Cond.instanceMethod yX11_comma, Cond.selects RX11 yX11_comma yX11_comma, Cond.code yX11_comma cX11_comma 1 (some .boolean), Cond.methodLink RX11 205 yX11_begins, Cond.instanceMethod yX11_begins, Cond.selects RX11 yX11_begins yX11_begins, Cond.code yX11_begins cX11_begins 3 (some .boolean), Cond.methodLink RX11 209 yX11_placeLine, Cond.instanceMethod yX11_placeLine, Cond.selects RX11 yX11_placeLine yX11_placeLine, Cond.code yX11_placeLine cX11_placeLine 3 none, Cond.methodLink RX11 152 yX11_mustName, Cond.instanceMethod yX11_mustName, Cond.selects RX11 yX11_mustName yX11_mustName, Cond.code yX11_mustName cX11_mustName 2 none, Cond.methodLink RX11 155 yX11_find, Cond.instanceMethod yX11_find, Cond.selects RX11 yX11_find yX11_find, Cond.code yX11_find cX11_find 4 (some .int), Cond.methodLink RX11 212 yX11_roadLine, Cond.instanceMethod yX11_roadLine, Cond.selects RX11 yX11_roadLine yX11_roadLine]
def wsL_law0_r22 : List Cond := [Cond.code yX11_roadLine cX11_roadLine 5 none, Cond.methodLink RX11 240 yX11_placePassed, Cond.instanceMethod yX11_placePassed, Cond.selects RX11 yX11_placePassed yX11_placePassed, Cond.code yX11_placePassed cX11_placePassed 2 (some .int), Cond.methodLink RX11 158 yX11_placeHere, Cond.instanceMethod yX11_placeHere, Cond.selects RX11 yX11_placeHere yX11_placeHere, Cond.code yX11_placeHere cX11_placeHere 2 (some .int), Cond.methodLink RX11 215 yX11_pumpLine, Cond.instanceMethod yX11_pumpLine, Cond.selects RX11 yX11_pumpLine yX11_pumpLine, Cond.code yX11_pumpLine cX11_pumpLine 6 none, Cond.methodLink RX11 218 yX11_wayLine, Cond.instanceMethod yX11_wayLine, Cond.selects RX11 yX11_wayLine yX11_wayLine, Cond.code yX11_wayLine cX11_wayLine 4 none, Cond.methodLink RX11 221 yX11_receiptLine, Cond.instanceMethod yX11_receiptLine, Cond.selects RX11 yX11_receiptLine yX11_receiptLine, Cond.code yX11_receiptLine cX11_receiptLine 3 none, Cond.methodLink RX11 185 yX11_copy, Cond.static yX11_copy, Cond.code yX11_copy cX11_copy 6 none]
def wsL_law0_r23 : List Cond := [Cond.methodLink RX11 198 yX11_comes, Cond.instanceMethod yX11_comes, Cond.selects RX11 yX11_comes yX11_comes, Cond.code yX11_comes cX11_comes 2 none, Cond.fieldLink RX11 418 "LastsToNextModel" "seed1" "I", Cond.methodLink RX11 424 yX11_drawPrice, Cond.instanceMethod yX11_drawPrice, Cond.selects RX11 yX11_drawPrice yX11_drawPrice, Cond.code yX11_drawPrice cX11_drawPrice 4 (some .int), Cond.methodLink RX11 260 yX11_pumpOf, Cond.instanceMethod yX11_pumpOf, Cond.selects RX11 yX11_pumpOf yX11_pumpOf, Cond.code yX11_pumpOf cX11_pumpOf 3 (some .int), Cond.methodLink RX11 421 yX11_drawn, Cond.static yX11_drawn, Cond.code yX11_drawn cX11_drawn 1 (some .int), Cond.constant RX11 417 (65537), Cond.methodLink RL 28 yX10_fault, Cond.instanceMethod yX10_fault, Cond.selects RX10 yX10_fault yX10_fault, Cond.code yX10_fault cX10_fault 1 (some .int), Cond.methodLink RL 32 yX11_fault, Cond.instanceMethod yX11_fault, Cond.selects RX11 yX11_fault yX11_fault]
def wsL_law0_r24 : List Cond := [Cond.code yX11_fault cX11_fault 1 (some .int), Cond.methodLink RL 33 yX10_where, Cond.instanceMethod yX10_where, Cond.selects RX10 yX10_where yX10_where, Cond.code yX10_where cX10_where 1 (some .int), Cond.methodLink RL 36 yX11_where, Cond.instanceMethod yX11_where, Cond.selects RX11 yX11_where yX11_where, Cond.code yX11_where cX11_where 1 (some .int), Cond.methodLink RL 37 yX10_takes, Cond.instanceMethod yX10_takes, Cond.selects RX10 yX10_takes yX10_takes, Cond.code yX10_takes cX10_takes 4 (some .int), Cond.methodLink RX10 112 yX10_areTwoPlaces, Cond.instanceMethod yX10_areTwoPlaces, Cond.selects RX10 yX10_areTwoPlaces yX10_areTwoPlaces, Cond.code yX10_areTwoPlaces cX10_areTwoPlaces 3 (some .boolean), Cond.methodLink RX10 126 yX9_isPlace, Cond.instanceMethod yX9_isPlace, Cond.selects RX9 yX9_isPlace yX9_isPlace, Cond.code yX9_isPlace cX9_isPlace 2 (some .boolean), Cond.methodLink RX10 116 yX9_isRoad, Cond.methodLink RX10 119 yX9_minutesOf, Cond.instanceMethod yX9_minutesOf]
def wsL_law0_r25 : List Cond := [Cond.selects RX9 yX9_minutesOf yX9_minutesOf, Cond.code yX9_minutesOf cX9_minutesOf 3 (some .int), Cond.methodLink RX10 123 yX9_pintsOf, Cond.methodLink RL 41 yX11_takes, Cond.instanceMethod yX11_takes, Cond.selects RX11 yX11_takes yX11_takes, Cond.code yX11_takes cX11_takes 4 (some .int), Cond.methodLink RX11 269 yX11_isPlace, Cond.instanceMethod yX11_isPlace, Cond.selects RX11 yX11_isPlace yX11_isPlace, Cond.code yX11_isPlace cX11_isPlace 2 (some .boolean), Cond.methodLink RX11 263 yX11_roadOf, Cond.instanceMethod yX11_roadOf, Cond.selects RX11 yX11_roadOf yX11_roadOf, Cond.code yX11_roadOf cX11_roadOf 3 (some .int), Cond.methodLink RL 42 yX10_pump, Cond.instanceMethod yX10_pump, Cond.selects RX10 yX10_pump yX10_pump, Cond.code yX10_pump cX10_pump 5 (some .int), Cond.fieldLink RX10 130 "LastsToNext$Road" "first" "[I", Cond.fieldLink RX10 134 "LastsToNext$Road" "shut" "[I", Cond.fieldLink RX10 137 "LastsToNext$Road" "second" "[I", Cond.methodLink RL 46 yX11_pump, Cond.instanceMethod yX11_pump]
def wsL_law0_r26 : List Cond := [Cond.selects RX11 yX11_pump yX11_pump, Cond.code yX11_pump cX11_pump 3 (some .int), Cond.methodLink RL 47 yX10_station, Cond.instanceMethod yX10_station, Cond.selects RX10 yX10_station yX10_station, Cond.code yX10_station cX10_station 2 (some .int), Cond.fieldLink RX10 143 "LastsToNext$Road" "way" "[I", Cond.methodLink RX10 140 yX9_isStation, Cond.instanceMethod yX9_isStation, Cond.selects RX9 yX9_isStation yX9_isStation, Cond.code yX9_isStation cX9_isStation 2 (some .boolean), Cond.methodLink RL 50 yX11_station, Cond.instanceMethod yX11_station, Cond.selects RX11 yX11_station yX11_station, Cond.code yX11_station cX11_station 2 (some .int), Cond.methodLink RX11 251 yX11_isStation, Cond.instanceMethod yX11_isStation, Cond.selects RX11 yX11_isStation yX11_isStation, Cond.code yX11_isStation cX11_isStation 2 (some .boolean), Cond.methodLink RX11 257 yX11_placeOf, Cond.instanceMethod yX11_placeOf, Cond.selects RX11 yX11_placeOf yX11_placeOf, Cond.code yX11_placeOf cX11_placeOf 2 (some .int), Cond.methodLink RL 51 yX10_legs]
def wsL_law0_r27 : List Cond := [Cond.instanceMethod yX10_legs, Cond.selects RX10 yX10_legs yX10_legs, Cond.code yX10_legs cX10_legs 3 (some .int), Cond.methodLink RX10 146 yX9_legsPints, Cond.instanceMethod yX9_legsPints, Cond.selects RX9 yX9_legsPints yX9_legsPints, Cond.code yX9_legsPints cX9_legsPints 3 (some .int), Cond.methodLink RL 54 yX11_legs, Cond.instanceMethod yX11_legs, Cond.selects RX11 yX11_legs yX11_legs, Cond.code yX11_legs cX11_legs 3 (some .int), Cond.methodLink RX11 272 yX11_legsOf, Cond.instanceMethod yX11_legsOf, Cond.selects RX11 yX11_legsOf yX11_legsOf, Cond.code yX11_legsOf cX11_legsOf 5 (some .int), Cond.methodLink RX11 266 yX11_leg, Cond.instanceMethod yX11_leg, Cond.selects RX11 yX11_leg yX11_leg, Cond.code yX11_leg cX11_leg 2 (some .int), Cond.methodLink RL 55 yX10_lasts, Cond.instanceMethod yX10_lasts, Cond.selects RX10 yX10_lasts yX10_lasts, Cond.code yX10_lasts cX10_lasts 3 (some .int), Cond.methodLink RX10 149 yX9_isLevel]
def wsL_law0_r28 : List Cond := [Cond.instanceMethod yX9_isLevel, Cond.selects RX9 yX9_isLevel yX9_isLevel, Cond.code yX9_isLevel cX9_isLevel 2 (some .boolean), Cond.methodLink RX10 152 yX9_lastReached, Cond.instanceMethod yX9_lastReached, Cond.selects RX9 yX9_lastReached yX9_lastReached, Cond.code yX9_lastReached cX9_lastReached 5 (some .int), Cond.methodLink RL 58 yX11_lasts, Cond.instanceMethod yX11_lasts, Cond.selects RX11 yX11_lasts yX11_lasts, Cond.code yX11_lasts cX11_lasts 4 (some .int), Cond.methodLink RX11 254 yX11_lastStation, Cond.instanceMethod yX11_lastStation, Cond.selects RX11 yX11_lastStation yX11_lastStation, Cond.code yX11_lastStation cX11_lastStation 1 (some .int), Cond.methodLink RL 59 yX10_plan, Cond.instanceMethod yX10_plan, Cond.selects RX10 yX10_plan yX10_plan, Cond.code yX10_plan cX10_plan 3 (some .boolean), Cond.fieldLink RX10 161 "LastsToNext$Plans" "planned" "[I", Cond.methodLink RX10 155 yX9_isLeft, Cond.instanceMethod yX9_isLeft, Cond.selects RX9 yX9_isLeft yX9_isLeft, Cond.code yX9_isLeft cX9_isLeft 2 (some .boolean)]
def wsL_law0_r29 : List Cond := [Cond.methodLink RX10 158 yX10_deny, Cond.instanceMethod yX10_deny, Cond.selects RX10 yX10_deny yX10_deny, Cond.code yX10_deny cX10_deny 2 (some .boolean), Cond.methodLink RX10 164 yX10_allow, Cond.instanceMethod yX10_allow, Cond.selects RX10 yX10_allow yX10_allow, Cond.code yX10_allow cX10_allow 1 (some .boolean), Cond.methodLink RL 63 yX11_plan, Cond.instanceMethod yX11_plan, Cond.selects RX11 yX11_plan yX11_plan, Cond.code yX11_plan cX11_plan 3 (some .boolean), Cond.methodLink RX11 275 yX11_isStop, Cond.instanceMethod yX11_isStop, Cond.selects RX11 yX11_isStop yX11_isStop, Cond.code yX11_isStop cX11_isStop 2 (some .boolean), Cond.methodLink RX11 278 yX11_isNot, Cond.instanceMethod yX11_isNot, Cond.selects RX11 yX11_isNot yX11_isNot, Cond.code yX11_isNot cX11_isNot 2 (some .boolean), Cond.methodLink RL 64 yX10_judge, Cond.instanceMethod yX10_judge, Cond.selects RX10 yX10_judge yX10_judge, Cond.code yX10_judge cX10_judge 1 (some .int)]
def wsL_law0_r30 : List Cond := [Cond.methodLink RX10 168 yX9_isTold, Cond.methodLink RX10 171 yX6_failsAt, Cond.instanceMethod yX6_failsAt, Cond.selects RX6 yX6_failsAt yX6_failsAt, Cond.code yX6_failsAt cX6_failsAt 4 (some .int), Cond.fieldLink RX6 35 "LastsToNext$Road" "has" "I", Cond.fieldLink RX6 41 "LastsToNext$Road" "stations" "I", Cond.fieldLink RX6 48 "LastsToNext$Road" "tank" "I", Cond.methodLink RX6 44 yX9_hasPumpAt, Cond.instanceMethod yX9_hasPumpAt, Cond.selects RX9 yX9_hasPumpAt yX9_hasPumpAt, Cond.code yX9_hasPumpAt cX9_hasPumpAt 2 (some .boolean), Cond.methodLink RX6 51 yX9_legPints, Cond.instanceMethod yX9_legPints, Cond.selects RX9 yX9_legPints yX9_legPints, Cond.code yX9_legPints cX9_legPints 2 (some .int), Cond.methodLink RL 67 yX11_judge, Cond.instanceMethod yX11_judge, Cond.selects RX11 yX11_judge yX11_judge, Cond.code yX11_judge cX11_judge 1 (some .int), Cond.methodLink RX11 284 yX11_judged, Cond.instanceMethod yX11_judged, Cond.selects RX11 yX11_judged yX11_judged, Cond.code yX11_judged cX11_judged 3 (some .int)]
def wsL_law0_r31 : List Cond := [Cond.methodLink RX11 281 yX11_priceAt, Cond.instanceMethod yX11_priceAt, Cond.selects RX11 yX11_priceAt yX11_priceAt, Cond.code yX11_priceAt cX11_priceAt 2 (some .int), Cond.methodLink RL 68 yX10_cost, Cond.instanceMethod yX10_cost, Cond.selects RX10 yX10_cost yX10_cost, Cond.code yX10_cost cX10_cost 1 (some .int), Cond.methodLink RX10 175 yX6_pence, Cond.instanceMethod yX6_pence, Cond.selects RX6 yX6_pence yX6_pence, Cond.code yX6_pence cX6_pence 4 (some .int), Cond.fieldLink RX6 59 "LastsToNext$Road" "stopPence" "I", Cond.methodLink RX6 55 yX9_priceAt, Cond.instanceMethod yX9_priceAt, Cond.selects RX9 yX9_priceAt yX9_priceAt, Cond.code yX9_priceAt cX9_priceAt 3 (some .int), Cond.methodLink RL 71 yX11_cost, Cond.instanceMethod yX11_cost, Cond.selects RX11 yX11_cost yX11_cost, Cond.code yX11_cost cX11_cost 3 (some .int), Cond.methodLink RL 72 yX10_cheapest, Cond.instanceMethod yX10_cheapest, Cond.selects RX10 yX10_cheapest yX10_cheapest]
def wsL_law0_r32 : List Cond := [Cond.code yX10_cheapest cX10_cheapest 1 (some .int), Cond.methodLink RX10 178 yX6_leastCost, Cond.instanceMethod yX6_leastCost, Cond.selects RX6 yX6_leastCost yX6_leastCost, Cond.code yX6_leastCost cX6_leastCost 3 (some .int), Cond.methodLink RX6 68 yX6_look, Cond.instanceMethod yX6_look, Cond.selects RX6 yX6_look yX6_look, Cond.code yX6_look cX6_look 5 none, Cond.constantLong RX6 76 (1099511627776), Cond.methodLink RX6 78 yJ7_fill_d0a16, Cond.static yJ7_fill_d0a16, Cond.code yJ7_fill_d0a16 cJ7_fill_d0a16 5 none, Cond.methodLink RX6 81 yX4_leave, Cond.static yX4_leave, Cond.initialized RX4, Cond.code yX4_leave cX4_leave 6 none, Cond.methodLink RX6 87 yX6_buyBest, Cond.instanceMethod yX6_buyBest, Cond.selects RX6 yX6_buyBest yX6_buyBest, Cond.code yX6_buyBest cX6_buyBest 6 none, Cond.methodLink RX6 95 yX4_choose, Cond.static yX4_choose, Cond.code yX4_choose cX4_choose 11 none]
def wsL_law0_r33 : List Cond := [Cond.methodLink RX6 99 yX4_spend, Cond.static yX4_spend, Cond.code yX4_spend cX4_spend 7 (some .long), Cond.methodLink RX6 91 yX6_buyNothing, Cond.static yX6_buyNothing, Cond.code yX6_buyNothing cX6_buyNothing 2 none, Cond.methodLink RX6 72 yX6_answer, Cond.static yX6_answer, Cond.code yX6_answer cX6_answer 2 (some .int), Cond.methodLink RL 75 yX11_cheapest, Cond.instanceMethod yX11_cheapest, Cond.selects RX11 yX11_cheapest yX11_cheapest, Cond.code yX11_cheapest cX11_cheapest 1 (some .int), Cond.methodLink RX11 288 yX11_layPlans, Cond.instanceMethod yX11_layPlans, Cond.selects RX11 yX11_layPlans yX11_layPlans, Cond.code yX11_layPlans cX11_layPlans 10 none, Cond.constant RX11 287 (1000000000), Cond.methodLink RX11 292 yX11_leastFrom, Cond.instanceMethod yX11_leastFrom, Cond.selects RX11 yX11_leastFrom yX11_leastFrom, Cond.code yX11_leastFrom cX11_leastFrom 2 (some .int), Cond.methodLink RL 76 yX10_how, Cond.instanceMethod yX10_how]
def wsL_law0_r34 : List Cond := [Cond.selects RX10 yX10_how yX10_how, Cond.code yX10_how cX10_how 2 (some .int), Cond.methodLink RX10 182 yX6_cheapestPints, Cond.instanceMethod yX6_cheapestPints, Cond.selects RX6 yX6_cheapestPints yX6_cheapestPints, Cond.code yX6_cheapestPints cX6_cheapestPints 4 (some .int), Cond.methodLink RX6 103 yX6_leastCost, Cond.methodLink RX6 107 yX6_levelOnComing, Cond.instanceMethod yX6_levelOnComing, Cond.selects RX6 yX6_levelOnComing yX6_levelOnComing, Cond.code yX6_levelOnComing cX6_levelOnComing 5 (some .int), Cond.methodLink RX6 110 Lib.Math.max.name, Cond.methodLink RL 79 yX11_how, Cond.instanceMethod yX11_how, Cond.selects RX11 yX11_how yX11_how, Cond.code yX11_how cX11_how 4 (some .int), Cond.methodLink RL 80 yX10_fewest, Cond.instanceMethod yX10_fewest, Cond.selects RX10 yX10_fewest yX10_fewest, Cond.code yX10_fewest cX10_fewest 1 (some .int), Cond.methodLink RX10 185 yX6_fewestStops, Cond.instanceMethod yX6_fewestStops, Cond.selects RX6 yX6_fewestStops yX6_fewestStops, Cond.code yX6_fewestStops cX6_fewestStops 3 (some .int)]
def wsL_law0_r35 : List Cond := [Cond.methodLink RX6 116 yX6_lookByStops, Cond.instanceMethod yX6_lookByStops, Cond.selects RX6 yX6_lookByStops yX6_lookByStops, Cond.code yX6_lookByStops cX6_lookByStops 4 none, Cond.methodLink RX6 120 yX6_stopHere, Cond.static yX6_stopHere, Cond.code yX6_stopHere cX6_stopHere 8 none, Cond.methodLink RX6 124 Lib.MathLoose.min_long.x, Cond.static Lib.MathLoose.min_long.x, Cond.code Lib.MathLoose.min_long.x Lib.MathLoose.min_long.code 4 (some .long), Cond.methodLink RL 83 yX11_fewest, Cond.instanceMethod yX11_fewest, Cond.selects RX11 yX11_fewest yX11_fewest, Cond.code yX11_fewest cX11_fewest 1 (some .int), Cond.methodLink RL 84 yX10_time, Cond.instanceMethod yX10_time, Cond.selects RX10 yX10_time yX10_time, Cond.code yX10_time cX10_time 1 (some .int), Cond.methodLink RX10 188 yX6_minutes, Cond.instanceMethod yX6_minutes, Cond.selects RX6 yX6_minutes yX6_minutes, Cond.code yX6_minutes cX6_minutes 4 (some .int), Cond.fieldLink RX6 65 "LastsToNext$Road" "stopMinutes" "I", Cond.methodLink RX6 62 yX9_legMinutes]
def wsL_law0_r36 : List Cond := [Cond.instanceMethod yX9_legMinutes, Cond.selects RX9 yX9_legMinutes yX9_legMinutes, Cond.code yX9_legMinutes cX9_legMinutes 2 (some .int), Cond.methodLink RX9 80 yX9_minutesOf, Cond.methodLink RL 87 yX11_time, Cond.instanceMethod yX11_time, Cond.selects RX11 yX11_time yX11_time, Cond.code yX11_time cX11_time 3 (some .int), Cond.methodLink RL 88 yX10_without, Cond.instanceMethod yX10_without, Cond.selects RX10 yX10_without yX10_without, Cond.code yX10_without cX10_without 2 (some .int), Cond.methodLink RX10 191 yX9_hasPumpAt, Cond.methodLink RL 91 yX11_without, Cond.instanceMethod yX11_without, Cond.selects RX11 yX11_without yX11_without, Cond.code yX11_without cX11_without 2 (some .int), Cond.methodLink RL 92 yX10_gap, Cond.instanceMethod yX10_gap, Cond.selects RX10 yX10_gap yX10_gap, Cond.code yX10_gap cX10_gap 2 (some .int), Cond.methodLink RX10 194 yX6_worstGap, Cond.instanceMethod yX6_worstGap, Cond.selects RX6 yX6_worstGap yX6_worstGap]
def wsL_law0_r37 : List Cond := [Cond.code yX6_worstGap cX6_worstGap 6 (some .int), Cond.methodLink RL 95 yX11_gap, Cond.instanceMethod yX11_gap, Cond.selects RX11 yX11_gap yX11_gap, Cond.code yX11_gap cX11_gap 5 (some .int), Cond.methodLink RL 96 yX10_within, Cond.instanceMethod yX10_within, Cond.selects RX10 yX10_within yX10_within, Cond.code yX10_within cX10_within 2 (some .int), Cond.methodLink RX10 197 yX6_leastWithin, Cond.instanceMethod yX6_leastWithin, Cond.selects RX6 yX6_leastWithin yX6_leastWithin, Cond.code yX6_leastWithin cX6_leastWithin 3 (some .int), Cond.methodLink RL 99 yX11_within, Cond.instanceMethod yX11_within, Cond.selects RX11 yX11_within yX11_within, Cond.code yX11_within cX11_within 5 (some .int), Cond.methodLink RX11 295 yX11_leastBy, Cond.instanceMethod yX11_leastBy, Cond.selects RX11 yX11_leastBy yX11_leastBy, Cond.code yX11_leastBy cX11_leastBy 9 (some .int), Cond.methodLink RL 100 yX10_rest, Cond.instanceMethod yX10_rest, Cond.selects RX10 yX10_rest yX10_rest]
def wsL_law0_r38 : List Cond := [Cond.code yX10_rest cX10_rest 1 (some .int), Cond.methodLink RX10 200 yX6_cheapestRest, Cond.instanceMethod yX6_cheapestRest, Cond.selects RX6 yX6_cheapestRest yX6_cheapestRest, Cond.code yX6_cheapestRest cX6_cheapestRest 2 (some .int), Cond.methodLink RL 103 yX11_rest, Cond.instanceMethod yX11_rest, Cond.selects RX11 yX11_rest yX11_rest, Cond.code yX11_rest cX11_rest 3 (some .int), Cond.methodLink RL 104 yX10_need, Cond.instanceMethod yX10_need, Cond.selects RX10 yX10_need yX10_need, Cond.code yX10_need cX10_need 1 (some .int), Cond.methodLink RX10 203 yX6_leastBeginning, Cond.instanceMethod yX6_leastBeginning, Cond.selects RX6 yX6_leastBeginning yX6_leastBeginning, Cond.code yX6_leastBeginning cX6_leastBeginning 3 (some .int), Cond.methodLink RL 107 yX11_need, Cond.instanceMethod yX11_need, Cond.selects RX11 yX11_need yX11_need, Cond.code yX11_need cX11_need 2 (some .int), Cond.methodLink RL 108 yX10_buys, Cond.instanceMethod yX10_buys, Cond.selects RX10 yX10_buys yX10_buys]
def wsL_law0_r39 : List Cond := [Cond.code yX10_buys cX10_buys 6 (some .int), Cond.methodLink RX10 206 yX10_isRule, Cond.static yX10_isRule, Cond.code yX10_isRule cX10_isRule 1 (some .boolean), Cond.methodLink RX10 209 yX10_whyNoBuying, Cond.instanceMethod yX10_whyNoBuying, Cond.selects RX10 yX10_whyNoBuying yX10_whyNoBuying, Cond.code yX10_whyNoBuying cX10_whyNoBuying 4 (some .int), Cond.methodLink RX10 213 yX9_priceAt, Cond.methodLink RX10 217 yX1_pintsByRule, Cond.instanceMethod yX1_pintsByRule, Cond.selects RX1 yX1_pintsByRule yX1_pintsByRule, Cond.code yX1_pintsByRule cX1_pintsByRule 6 (some .int), Cond.fieldLink RX1 29 "LastsToNext$Road" "tank" "I", Cond.methodLink RX1 35 yX1_nextCheaper, Cond.static yX1_nextCheaper, Cond.code yX1_nextCheaper cX1_nextCheaper 4 (some .int), Cond.fieldLink RX1 56 "LastsToNext$Road" "stations" "I", Cond.methodLink RX1 59 yX9_hasPumpAt, Cond.methodLink RX1 63 yX9_priceAt, Cond.methodLink RX1 39 yX1_pintsTo, Cond.static yX1_pintsTo, Cond.code yX1_pintsTo cX1_pintsTo 5 (some .int), Cond.fieldLink RX1 47 "LastsToNext$Road" "upTo" "[I"]
def wsL_law0_r40 : List Cond := [Cond.methodLink RX1 50 Lib.Math.max.name, Cond.methodLink RX1 43 yX1_nextPump, Cond.static yX1_nextPump, Cond.code yX1_nextPump cX1_nextPump 3 (some .int), Cond.methodLink RL 112 yX11_buys, Cond.instanceMethod yX11_buys, Cond.selects RX11 yX11_buys yX11_buys, Cond.code yX11_buys cX11_buys 6 (some .int), Cond.methodLink RX11 299 yX11_isRule, Cond.instanceMethod yX11_isRule, Cond.selects RX11 yX11_isRule yX11_isRule, Cond.code yX11_isRule cX11_isRule 2 (some .boolean), Cond.methodLink RX11 302 yX11_pumpWhy, Cond.instanceMethod yX11_pumpWhy, Cond.selects RX11 yX11_pumpWhy yX11_pumpWhy, Cond.code yX11_pumpWhy cX11_pumpWhy 4 (some .int), Cond.methodLink RX11 306 yX11_bought, Cond.instanceMethod yX11_bought, Cond.selects RX11 yX11_bought yX11_bought, Cond.code yX11_bought cX11_bought 8 (some .int), Cond.methodLink RL 113 yX10_byRule, Cond.instanceMethod yX10_byRule, Cond.selects RX10 yX10_byRule yX10_byRule, Cond.code yX10_byRule cX10_byRule 2 (some .int)]
def wsL_law0_r41 : List Cond := [Cond.methodLink RX10 221 yX10_isRuleOfRoad, Cond.instanceMethod yX10_isRuleOfRoad, Cond.selects RX10 yX10_isRuleOfRoad yX10_isRuleOfRoad, Cond.code yX10_isRuleOfRoad cX10_isRuleOfRoad 2 (some .boolean), Cond.methodLink RX10 224 yX1_travelOpen, Cond.instanceMethod yX1_travelOpen, Cond.selects RX1 yX1_travelOpen yX1_travelOpen, Cond.code yX1_travelOpen cX1_travelOpen 3 (some .int), Cond.methodLink RX1 67 yX1_travel, Cond.instanceMethod yX1_travel, Cond.selects RX1 yX1_travel yX1_travel, Cond.code yX1_travel cX1_travel 9 (some .int), Cond.fieldLink RX1 74 "LastsToNext$Drivers" "stuckStation" "I", Cond.fieldLink RX1 77 "LastsToNext$Road" "has" "I", Cond.fieldLink RX1 80 "LastsToNext$Road" "way" "[I", Cond.fieldLink RX1 90 "LastsToNext$Road" "stopPence" "I", Cond.methodLink RX1 83 yX0_priceSeen, Cond.methodLink RX1 86 yX1_pintsByRule, Cond.methodLink RX1 93 yX9_legPints, Cond.methodLink RL 116 yX11_byRule, Cond.instanceMethod yX11_byRule, Cond.selects RX11 yX11_byRule yX11_byRule, Cond.code yX11_byRule cX11_byRule 2 (some .int), Cond.methodLink RX11 312 yX11_paidBy]
def wsL_law0_r42 : List Cond := [Cond.instanceMethod yX11_paidBy, Cond.selects RX11 yX11_paidBy yX11_paidBy, Cond.code yX11_paidBy cX11_paidBy 6 (some .int), Cond.fieldLink RX11 310 "LastsToNextModel" "stuck" "I", Cond.methodLink RL 117 yX10_stuckAt, Cond.instanceMethod yX10_stuckAt, Cond.selects RX10 yX10_stuckAt yX10_stuckAt, Cond.code yX10_stuckAt cX10_stuckAt 2 (some .int), Cond.fieldLink RX10 227 "LastsToNext$Drivers" "stuckStation" "I", Cond.methodLink RL 120 yX11_stuckAt, Cond.instanceMethod yX11_stuckAt, Cond.selects RX11 yX11_stuckAt yX11_stuckAt, Cond.code yX11_stuckAt cX11_stuckAt 2 (some .int), Cond.methodLink RL 121 yX10_odds, Cond.instanceMethod yX10_odds, Cond.selects RX10 yX10_odds yX10_odds, Cond.code yX10_odds cX10_odds 3 (some .long), Cond.methodLink RX10 230 yX1_reckonOdds, Cond.instanceMethod yX1_reckonOdds, Cond.selects RX1 yX1_reckonOdds yX1_reckonOdds, Cond.code yX1_reckonOdds cX1_reckonOdds 4 none, Cond.fieldLink RX1 101 "LastsToNext$Drivers" "scale" "J", Cond.methodLink RX1 97 yX1_lookDownTo, Cond.instanceMethod yX1_lookDownTo]
def wsL_law0_r43 : List Cond := [Cond.selects RX1 yX1_lookDownTo yX1_lookDownTo, Cond.code yX1_lookDownTo cX1_lookDownTo 6 none, Cond.constantLong RX1 129 (20), Cond.methodLink RX1 119 yJ7_fill_d0a16, Cond.methodLink RX1 111 yX1_leaveStation, Cond.instanceMethod yX1_leaveStation, Cond.selects RX1 yX1_leaveStation yX1_leaveStation, Cond.code yX1_leaveStation cX1_leaveStation 4 none, Cond.fieldLink RX1 131 "LastsToNext$Road" "stuck" "I", Cond.methodLink RX1 134 yX4_leave, Cond.methodLink RX1 125 yX1_meetPump, Cond.instanceMethod yX1_meetPump, Cond.selects RX1 yX1_meetPump yX1_meetPump, Cond.code yX1_meetPump cX1_meetPump 16 none, Cond.fieldLink RX1 140 "LastsToNext$Road" "shut" "[I", Cond.methodLink RX1 115 yX1_chooseAll, Cond.instanceMethod yX1_chooseAll, Cond.selects RX1 yX1_chooseAll yX1_chooseAll, Cond.code yX1_chooseAll cX1_chooseAll 9 none, Cond.methodLink RX1 147 yX4_choose, Cond.methodLink RX1 143 yX4_spend, Cond.methodLink RX1 105 yX2_become, Cond.instanceMethod yX2_become, Cond.selects RX2 yX2_become yX2_become]
def wsL_law0_r44 : List Cond := [Cond.code yX2_become cX2_become 7 none, Cond.fieldLink RX2 17 "LastsToNext$Fraction" "uppe\x72" "J", Cond.methodLink RX2 13 yX2_commonDivisor, Cond.static yX2_commonDivisor, Cond.code yX2_commonDivisor cX2_commonDivisor 11 (some .long), Cond.methodLink RX10 234 yX10_acceptFraction, Cond.instanceMethod yX10_acceptFraction, Cond.selects RX10 yX10_acceptFraction yX10_acceptFraction, Cond.code yX10_acceptFraction cX10_acceptFraction 2 (some .long), Cond.fieldLink RX10 364 "LastsToNext$Fraction" "lowe\x72" "J", Cond.fieldLink RX10 367 "LastsToNext$Fraction" "uppe\x72" "J", Cond.methodLink RL 125 yX11_odds, Cond.instanceMethod yX11_odds, Cond.selects RX11 yX11_odds yX11_odds, Cond.code yX11_odds cX11_odds 3 (some .long), Cond.methodLink RX11 349 yX11_meanOf, Cond.instanceMethod yX11_meanOf, Cond.selects RX11 yX11_meanOf yX11_meanOf, Cond.code yX11_meanOf cX11_meanOf 3 (some .long), Cond.methodLink RX11 342 yX11_layMeans, Cond.instanceMethod yX11_layMeans, Cond.selects RX11 yX11_layMeans yX11_layMeans, Cond.code yX11_layMeans cX11_layMeans 4 none, Cond.methodLink RX11 332 yX11_meanAt]
def wsL_law0_r45 : List Cond := [Cond.instanceMethod yX11_meanAt, Cond.selects RX11 yX11_meanAt yX11_meanAt, Cond.code yX11_meanAt cX11_meanAt 12 (some .long), Cond.constantLong RX11 315 (20), Cond.constantLong RX11 340 (2), Cond.methodLink RX11 325 yX11_comes1, Cond.instanceMethod yX11_comes1, Cond.selects RX11 yX11_comes1 yX11_comes1, Cond.code yX11_comes1 cX11_comes1 7 (some .long), Cond.methodLink RX11 321 yX11_behind, Cond.instanceMethod yX11_behind, Cond.selects RX11 yX11_behind yX11_behind, Cond.code yX11_behind cX11_behind 4 (some .long), Cond.methodLink RX11 317 yX11_twenties, Cond.instanceMethod yX11_twenties, Cond.selects RX11 yX11_twenties yX11_twenties, Cond.code yX11_twenties cX11_twenties 5 (some .long), Cond.methodLink RX11 336 yX11_atPrice, Cond.instanceMethod yX11_atPrice, Cond.selects RX11 yX11_atPrice yX11_atPrice, Cond.code yX11_atPrice cX11_atPrice 6 (some .long), Cond.methodLink RX11 329 yX11_bestBuy, Cond.instanceMethod yX11_bestBuy, Cond.selects RX11 yX11_bestBuy yX11_bestBuy]
def wsL_law0_r46 : List Cond := [Cond.code yX11_bestBuy cX11_bestBuy 11 (some .int), Cond.methodLink RX11 345 yX11_lowest, Cond.static yX11_lowest, Cond.code yX11_lowest cX11_lowest 5 (some .long), Cond.methodLink RX11 72 yX11_dividing, Cond.static yX11_dividing, Cond.code yX11_dividing cX11_dividing 10 (some .long), Cond.methodLink RL 126 yX10_mean, Cond.instanceMethod yX10_mean, Cond.selects RX10 yX10_mean yX10_mean, Cond.code yX10_mean cX10_mean 3 (some .long), Cond.methodLink RX10 238 yX1_reckonMean, Cond.instanceMethod yX1_reckonMean, Cond.selects RX1 yX1_reckonMean yX1_reckonMean, Cond.code yX1_reckonMean cX1_reckonMean 4 none, Cond.methodLink RL 129 yX11_mean, Cond.instanceMethod yX11_mean, Cond.selects RX11 yX11_mean yX11_mean, Cond.code yX11_mean cX11_mean 3 (some .long), Cond.methodLink RL 130 yX10_bestRule, Cond.instanceMethod yX10_bestRule, Cond.selects RX10 yX10_bestRule yX10_bestRule, Cond.code yX10_bestRule cX10_bestRule 1 (some .int), Cond.methodLink RX10 241 yX1_ruleOfLeastMean]
def wsL_law0_r47 : List Cond := [Cond.instanceMethod yX1_ruleOfLeastMean, Cond.selects RX1 yX1_ruleOfLeastMean yX1_ruleOfLeastMean, Cond.code yX1_ruleOfLeastMean cX1_ruleOfLeastMean 6 (some .int), Cond.methodLink RL 133 yX11_bestRule, Cond.instanceMethod yX11_bestRule, Cond.selects RX11 yX11_bestRule yX11_bestRule, Cond.code yX11_bestRule cX11_bestRule 5 (some .int), Cond.constantLong RX11 353 (-1), Cond.methodLink RL 134 yX10_bestMean, Cond.instanceMethod yX10_bestMean, Cond.selects RX10 yX10_bestMean yX10_bestMean, Cond.code yX10_bestMean cX10_bestMean 2 (some .long), Cond.methodLink RL 138 yX11_bestMean, Cond.instanceMethod yX11_bestMean, Cond.selects RX11 yX11_bestMean yX11_bestMean, Cond.code yX11_bestMean cX11_bestMean 2 (some .long), Cond.methodLink RL 139 yX10_buy, Cond.instanceMethod yX10_buy, Cond.selects RX10 yX10_buy yX10_buy, Cond.code yX10_buy cX10_buy 5 (some .int), Cond.methodLink RX10 244 yX1_bestPints, Cond.instanceMethod yX1_bestPints, Cond.selects RX1 yX1_bestPints yX1_bestPints, Cond.code yX1_bestPints cX1_bestPints 5 (some .int)]
def wsL_law0_r48 : List Cond := [Cond.methodLink RL 142 yX11_buy, Cond.instanceMethod yX11_buy, Cond.selects RX11 yX11_buy yX11_buy, Cond.code yX11_buy cX11_buy 5 (some .int), Cond.methodLink RL 143 yX10_sure, Cond.instanceMethod yX10_sure, Cond.selects RX10 yX10_sure yX10_sure, Cond.code yX10_sure cX10_sure 2 (some .long), Cond.methodLink RL 146 yX11_sure, Cond.instanceMethod yX11_sure, Cond.selects RX11 yX11_sure yX11_sure, Cond.code yX11_sure cX11_sure 2 (some .long), Cond.methodLink RL 147 yX10_net, Cond.instanceMethod yX10_net, Cond.selects RX10 yX10_net yX10_net, Cond.code yX10_net cX10_net 2 (some .int), Cond.methodLink RX10 248 yX5_least, Cond.instanceMethod yX5_least, Cond.selects RX5 yX5_least yX5_least, Cond.code yX5_least cX5_least 6 (some .int), Cond.fieldLink RX5 23 "LastsToNext$Road" "places" "I", Cond.constant RX5 29 (268435456), Cond.fieldLink RX5 40 "LastsToNext$Road" "has" "I", Cond.fieldLink RX5 51 "LastsToNext$Road" "tank" "I"]
def wsL_law0_r49 : List Cond := [Cond.methodLink RX5 57 Lib.Math.min.name, Cond.static Lib.Math.min.name, Cond.code Lib.Math.min.name Lib.Math.min.code 2 (some .int), Cond.methodLink RX5 30 yJ7_fill_53178, Cond.methodLink RX5 36 yX9_start, Cond.methodLink RX5 43 yX5_stopAt, Cond.instanceMethod yX5_stopAt, Cond.selects RX5 yX5_stopAt yX5_stopAt, Cond.code yX5_stopAt cX5_stopAt 10 none, Cond.fieldLink RX5 63 "LastsToNext$Road" "first" "[I", Cond.fieldLink RX5 66 "LastsToNext$Road" "stopMinutes" "I", Cond.fieldLink RX5 69 "LastsToNext$Road" "stopPence" "I", Cond.methodLink RX5 47 yX5_goOn, Cond.instanceMethod yX5_goOn, Cond.selects RX5 yX5_goOn yX5_goOn, Cond.code yX5_goOn cX5_goOn 6 (some .boolean), Cond.methodLink RX5 72 yX9_isRoad, Cond.methodLink RX5 76 yX9_minutesOf, Cond.methodLink RX5 79 yX5_goAlong, Cond.instanceMethod yX5_goAlong, Cond.selects RX5 yX5_goAlong yX5_goAlong, Cond.code yX5_goAlong cX5_goAlong 9 (some .boolean), Cond.methodLink RX5 83 yX9_pintsOf, Cond.methodLink RX5 54 yX9_goal]
def wsL_law0_r50 : List Cond := [Cond.instanceMethod yX9_goal, Cond.selects RX9 yX9_goal yX9_goal, Cond.code yX9_goal cX9_goal 1 (some .int), Cond.methodLink RL 151 yX11_net, Cond.instanceMethod yX11_net, Cond.selects RX11 yX11_net yX11_net, Cond.code yX11_net cX11_net 2 (some .int), Cond.methodLink RX11 363 yX11_layNet, Cond.instanceMethod yX11_layNet, Cond.selects RX11 yX11_layNet yX11_layNet, Cond.code yX11_layNet cX11_layNet 5 none, Cond.methodLink RX11 355 yX11_goes, Cond.instanceMethod yX11_goes, Cond.selects RX11 yX11_goes yX11_goes, Cond.code yX11_goes cX11_goes 8 (some .boolean), Cond.methodLink RX11 359 yX11_less, Cond.static yX11_less, Cond.code yX11_less cX11_less 3 (some .boolean), Cond.methodLink RX11 367 yX11_netTo, Cond.instanceMethod yX11_netTo, Cond.selects RX11 yX11_netTo yX11_netTo, Cond.code yX11_netTo cX11_netTo 4 (some .int), Cond.methodLink RL 152 yX10_most, Cond.instanceMethod yX10_most]
def wsL_law0_r51 : List Cond := [Cond.selects RX10 yX10_most yX10_most, Cond.code yX10_most cX10_most 2 (some .int), Cond.methodLink RX10 252 yX5_mostPints, Cond.instanceMethod yX5_mostPints, Cond.selects RX5 yX5_mostPints yX5_mostPints, Cond.code yX5_mostPints cX5_mostPints 6 (some .int), Cond.methodLink RX5 86 yX5_fillNext, Cond.instanceMethod yX5_fillNext, Cond.selects RX5 yX5_fillNext yX5_fillNext, Cond.code yX5_fillNext cX5_fillNext 6 (some .boolean), Cond.methodLink RL 155 yX11_most, Cond.instanceMethod yX11_most, Cond.selects RX11 yX11_most yX11_most, Cond.code yX11_most cX11_most 3 (some .int), Cond.methodLink RL 156 yX10_near, Cond.instanceMethod yX10_near, Cond.selects RX10 yX10_near yX10_near, Cond.code yX10_near cX10_near 3 (some .int), Cond.methodLink RX10 255 yX5_nearest, Cond.instanceMethod yX5_nearest, Cond.selects RX5 yX5_nearest yX5_nearest, Cond.code yX5_nearest cX5_nearest 6 (some .int), Cond.methodLink RX5 90 yX5_nearNext, Cond.instanceMethod yX5_nearNext]
def wsL_law0_r52 : List Cond := [Cond.selects RX5 yX5_nearNext yX5_nearNext, Cond.code yX5_nearNext cX5_nearNext 4 none, Cond.methodLink RL 159 yX11_near, Cond.instanceMethod yX11_near, Cond.selects RX11 yX11_near yX11_near, Cond.code yX11_near cX11_near 6 (some .int), Cond.methodLink RL 160 yX10_worth, Cond.instanceMethod yX10_worth, Cond.selects RX10 yX10_worth yX10_worth, Cond.code yX10_worth cX10_worth 3 (some .int), Cond.methodLink RL 163 yX11_worth, Cond.instanceMethod yX11_worth, Cond.selects RX11 yX11_worth yX11_worth, Cond.code yX11_worth cX11_worth 3 (some .int), Cond.methodLink RL 164 yX10_far, Cond.instanceMethod yX10_far, Cond.selects RX10 yX10_far yX10_far, Cond.code yX10_far cX10_far 4 (some .long), Cond.methodLink RX10 259 yX10_addParts, Cond.instanceMethod yX10_addParts, Cond.selects RX10 yX10_addParts yX10_addParts, Cond.code yX10_addParts cX10_addParts 5 none, Cond.fieldLink RX10 270 "LastsToNext$Road" "tank" "I", Cond.methodLink RX10 266 yX2_become]
def wsL_law0_r53 : List Cond := [Cond.methodLink RX10 273 yX2_plus, Cond.instanceMethod yX2_plus, Cond.selects RX2 yX2_plus yX2_plus, Cond.code yX2_plus cX2_plus 5 none, Cond.methodLink RX2 20 yX2_become, Cond.methodLink RL 168 yX11_far, Cond.instanceMethod yX11_far, Cond.selects RX11 yX11_far yX11_far, Cond.code yX11_far cX11_far 4 (some .long), Cond.fieldLink RX11 374 "LastsToNextModel" "unde\x72" "J", Cond.fieldLink RX11 370 "LastsToNextModel" "uppe\x72" "J", Cond.methodLink RX11 381 yX11_layFar, Cond.instanceMethod yX11_layFar, Cond.selects RX11 yX11_layFar yX11_layFar, Cond.code yX11_layFar cX11_layFar 3 none, Cond.methodLink RX11 377 yX11_layParts, Cond.instanceMethod yX11_layParts, Cond.selects RX11 yX11_layParts yX11_layParts, Cond.code yX11_layParts cX11_layParts 7 none, Cond.methodLink RL 169 yX10_loads, Cond.instanceMethod yX10_loads, Cond.selects RX10 yX10_loads yX10_loads, Cond.code yX10_loads cX10_loads 3 (some .int), Cond.methodLink RX10 263 yX10_fewestLoads]
def wsL_law0_r54 : List Cond := [Cond.instanceMethod yX10_fewestLoads, Cond.selects RX10 yX10_fewestLoads yX10_fewestLoads, Cond.code yX10_fewestLoads cX10_fewestLoads 4 (some .int), Cond.methodLink RL 173 yX11_loads, Cond.instanceMethod yX11_loads, Cond.selects RX11 yX11_loads yX11_loads, Cond.code yX11_loads cX11_loads 4 (some .int), Cond.methodLink RL 174 yX10_depot, Cond.instanceMethod yX10_depot, Cond.selects RX10 yX10_depot yX10_depot, Cond.code yX10_depot cX10_depot 5 (some .long), Cond.methodLink RL 178 yX11_depot, Cond.instanceMethod yX11_depot, Cond.selects RX11 yX11_depot yX11_depot, Cond.code yX11_depot cX11_depot 6 (some .long), Cond.methodLink RL 179 yX10_convoy, Cond.instanceMethod yX10_convoy, Cond.selects RX10 yX10_convoy yX10_convoy, Cond.code yX10_convoy cX10_convoy 4 (some .long), Cond.methodLink RL 182 yX11_convoy, Cond.instanceMethod yX11_convoy, Cond.selects RX11 yX11_convoy yX11_convoy, Cond.code yX11_convoy cX11_convoy 3 (some .long), Cond.methodLink RL 183 yX10_fits]
def wsL_law0_r55 : List Cond := [Cond.instanceMethod yX10_fits, Cond.selects RX10 yX10_fits yX10_fits, Cond.code yX10_fits cX10_fits 1 (some .int), Cond.fieldLink RX10 280 "LastsToNext$Receipts" "found" "I", Cond.methodLink RX10 276 yX8_search, Cond.instanceMethod yX8_search, Cond.selects RX8 yX8_search yX8_search, Cond.code yX8_search cX8_search 3 none, Cond.fieldLink RX8 18 "LastsToNext$Receipts" "found" "I", Cond.fieldLink RX8 22 "LastsToNext$Receipts" "could" "I", Cond.fieldLink RX8 25 "LastsToNext$Receipts" "surely" "I", Cond.fieldLink RX8 28 "LastsToNext$Receipts" "beginnings" "J", Cond.fieldLink RX8 32 "LastsToNext$Receipts" "pickedLength" "I", Cond.fieldLink RX8 35 "LastsToNext$Receipts" "wanted" "I", Cond.methodLink RX8 38 yX9_start, Cond.methodLink RX8 44 yX8_extend, Cond.instanceMethod yX8_extend, Cond.selects RX8 yX8_extend yX8_extend, Cond.code yX8_extend cX8_extend 6 none, Cond.fieldLink RX8 54 "LastsToNext$Road" "places" "I", Cond.methodLink RX8 48 yX9_goal, Cond.methodLink RX8 51 yX8_weigh, Cond.instanceMethod yX8_weigh, Cond.selects RX8 yX8_weigh yX8_weigh]
def wsL_law0_r56 : List Cond := [Cond.code yX8_weigh cX8_weigh 6 none, Cond.fieldLink RX8 65 "LastsToNext$Road" "has" "I", Cond.methodLink RX8 68 arraycopyName, Cond.native arraycopyName, Cond.static arraycopyName, Cond.initialized "java/lang/System", Cond.methodLink RX8 61 yX8_fittingBeginnings, Cond.instanceMethod yX8_fittingBeginnings, Cond.selects RX8 yX8_fittingBeginnings yX8_fittingBeginnings, Cond.code yX8_fittingBeginnings cX8_fittingBeginnings 9 (some .long), Cond.fieldLink RX8 74 "LastsToNext$Road" "tank" "I", Cond.fieldLink RX8 77 "LastsToNext$Road" "receipts" "I", Cond.fieldLink RX8 80 "LastsToNext$Road" "receiptPlace" "[I", Cond.methodLink RX8 83 yX8_beforeReceipt, Cond.static yX8_beforeReceipt, Cond.code yX8_beforeReceipt cX8_beforeReceipt 6 (some .long), Cond.fieldLink RX8 91 "LastsToNext$Road" "receiptPence" "[I", Cond.fieldLink RX8 94 "LastsToNext$Road" "first" "[I", Cond.fieldLink RX8 101 "LastsToNext$Road" "second" "[I", Cond.methodLink RX8 97 yX8_beforeBuying, Cond.static yX8_beforeBuying, Cond.code yX8_beforeBuying cX8_beforeBuying 5 (some .long), Cond.methodLink RX8 87 yX9_pintsOf, Cond.methodLink RX8 57 yX9_isRoad]
def wsL_law0_r57 : List Cond := [Cond.methodLink RL 186 yX11_fits, Cond.instanceMethod yX11_fits, Cond.selects RX11 yX11_fits yX11_fits, Cond.code yX11_fits cX11_fits 1 (some .int), Cond.fieldLink RX11 391 "LastsToNextModel" "fitMany" "I", Cond.methodLink RX11 414 yX11_seekWays, Cond.instanceMethod yX11_seekWays, Cond.selects RX11 yX11_seekWays yX11_seekWays, Cond.code yX11_seekWays cX11_seekWays 3 none, Cond.fieldLink RX11 385 "LastsToNextModel" "begun" "I", Cond.fieldLink RX11 388 "LastsToNextModel" "sought" "I", Cond.fieldLink RX11 394 "LastsToNextModel" "all" "I", Cond.fieldLink RX11 397 "LastsToNextModel" "some" "I", Cond.methodLink RX11 400 yX11_wayFrom, Cond.instanceMethod yX11_wayFrom, Cond.selects RX11 yX11_wayFrom yX11_wayFrom, Cond.code yX11_wayFrom cX11_wayFrom 4 none, Cond.methodLink RX11 403 yX11_doesFit, Cond.instanceMethod yX11_doesFit, Cond.selects RX11 yX11_doesFit yX11_doesFit, Cond.code yX11_doesFit cX11_doesFit 8 (some .boolean), Cond.methodLink RX11 407 yX11_endWay, Cond.instanceMethod yX11_endWay, Cond.selects RX11 yX11_endWay yX11_endWay]
def wsL_law0_r58 : List Cond := [Cond.code yX11_endWay cX11_endWay 4 none, Cond.methodLink RX11 410 yX11_hasBit, Cond.static yX11_hasBit, Cond.code yX11_hasBit cX11_hasBit 2 (some .boolean), Cond.methodLink RL 187 yX10_fit, Cond.instanceMethod yX10_fit, Cond.selects RX10 yX10_fit yX10_fit, Cond.code yX10_fit cX10_fit 3 (some .int), Cond.fieldLink RX10 283 "LastsToNext$Receipts" "pickedLength" "I", Cond.fieldLink RX10 286 "LastsToNext$Receipts" "picked" "[I", Cond.methodLink RL 190 yX11_fit, Cond.instanceMethod yX11_fit, Cond.selects RX11 yX11_fit yX11_fit, Cond.code yX11_fit cX11_fit 3 (some .int), Cond.methodLink RL 191 yX10_went, Cond.instanceMethod yX10_went, Cond.selects RX10 yX10_went yX10_went, Cond.code yX10_went cX10_went 2 (some .int), Cond.fieldLink RX10 289 "LastsToNext$Receipts" "surely" "I", Cond.fieldLink RX10 292 "LastsToNext$Receipts" "could" "I", Cond.methodLink RL 194 yX11_went, Cond.instanceMethod yX11_went, Cond.selects RX11 yX11_went yX11_went, Cond.code yX11_went cX11_went 2 (some .int)]
def wsL_law0_r59 : List Cond := [Cond.methodLink RL 195 yX10_needle, Cond.instanceMethod yX10_needle, Cond.selects RX10 yX10_needle yX10_needle, Cond.code yX10_needle cX10_needle 4 (some .int), Cond.fieldLink RX10 295 "LastsToNext$Receipts" "beginnings" "J", Cond.methodLink RX10 299 yJ13_numberOfLeadingZeros_95d88, Cond.static yJ13_numberOfLeadingZeros_95d88, Cond.initialized RJ13, Cond.code yJ13_numberOfLeadingZeros_95d88 cJ13_numberOfLeadingZeros_95d88 3 (some .int), Cond.methodLink RJ13 308 yJ6_numberOfLeadingZeros_0f7a4, Cond.static yJ6_numberOfLeadingZeros_0f7a4, Cond.initialized RJ6, Cond.code yJ6_numberOfLeadingZeros_0f7a4 cJ6_numberOfLeadingZeros_0f7a4 2 (some .int), Cond.constant RJ6 264 (65536), Cond.methodLink RX10 305 yJ13_numberOfTrailingZeros_95d88, Cond.static yJ13_numberOfTrailingZeros_95d88, Cond.code yJ13_numberOfTrailingZeros_95d88 cJ13_numberOfTrailingZeros_95d88 3 (some .int), Cond.methodLink RJ13 311 yJ6_numberOfTrailingZeros_0f7a4, Cond.static yJ6_numberOfTrailingZeros_0f7a4, Cond.code yJ6_numberOfTrailingZeros_0f7a4 cJ6_numberOfTrailingZeros_0f7a4 2 (some .int), Cond.methodLink RL 198 yX11_needle, Cond.instanceMethod yX11_needle, Cond.selects RX11 yX11_needle yX11_needle, Cond.code yX11_needle cX11_needle 4 (some .int)]
def wsL_law0_r60 : List Cond := [Cond.methodLink RL 199 yX10_run, Cond.instanceMethod yX10_run, Cond.selects RX10 yX10_run yX10_run, Cond.code yX10_run cX10_run 4 (some .int), Cond.methodLink RX10 308 yX10_whyNoRuns, Cond.instanceMethod yX10_whyNoRuns, Cond.selects RX10 yX10_whyNoRuns yX10_whyNoRuns, Cond.code yX10_whyNoRuns cX10_whyNoRuns 4 (some .int), Cond.methodLink RX10 332 yX10_isSeed, Cond.static yX10_isSeed, Cond.code yX10_isSeed cX10_isSeed 1 (some .boolean), Cond.constant RX10 315 (65537), Cond.methodLink RX10 312 yX1_travelDrawn, Cond.instanceMethod yX1_travelDrawn, Cond.selects RX1 yX1_travelDrawn yX1_travelDrawn, Cond.code yX1_travelDrawn cX1_travelDrawn 4 (some .int), Cond.fieldLink RX1 71 "LastsToNext$Draws" "seed" "I", Cond.methodLink RL 202 yX11_run, Cond.instanceMethod yX11_run, Cond.selects RX11 yX11_run yX11_run, Cond.code yX11_run cX11_run 3 (some .int), Cond.constant RX11 427 (65536), Cond.methodLink RX11 428 yX11_runBy, Cond.instanceMethod yX11_runBy]
def wsL_law0_r61 : List Cond := [Cond.selects RX11 yX11_runBy yX11_runBy, Cond.code yX11_runBy cX11_runBy 8 (some .int), Cond.methodLink RL 203 yX10_through, Cond.instanceMethod yX10_through, Cond.selects RX10 yX10_through yX10_through, Cond.code yX10_through cX10_through 7 (some .int), Cond.methodLink RL 207 yX11_through, Cond.instanceMethod yX11_through, Cond.selects RX11 yX11_through yX11_through, Cond.code yX11_through cX11_through 6 (some .int), Cond.methodLink RL 208 yX10_beats, Cond.instanceMethod yX10_beats, Cond.selects RX10 yX10_beats yX10_beats, Cond.code yX10_beats cX10_beats 10 (some .int), Cond.methodLink RL 212 yX11_beats, Cond.instanceMethod yX11_beats, Cond.selects RX11 yX11_beats yX11_beats, Cond.code yX11_beats cX11_beats 9 (some .int), Cond.methodLink RL 213 yX10_car, Cond.instanceMethod yX10_car, Cond.selects RX10 yX10_car yX10_car, Cond.code yX10_car cX10_car 2 (some .int), Cond.fieldLink RX10 316 "LastsToNext$Journey" "now" "[I", Cond.methodLink RL 216 yX11_car]
def wsL_law0_r62 : List Cond := [Cond.instanceMethod yX11_car, Cond.selects RX11 yX11_car yX11_car, Cond.code yX11_car cX11_car 2 (some .int), Cond.methodLink RL 217 yX10_fill, Cond.instanceMethod yX10_fill, Cond.selects RX10 yX10_fill yX10_fill, Cond.code yX10_fill cX10_fill 2 (some .int), Cond.methodLink RX10 319 yX3_takeIn, Cond.instanceMethod yX3_takeIn, Cond.selects RX3 yX3_takeIn yX3_takeIn, Cond.code yX3_takeIn cX3_takeIn 3 none, Cond.fieldLink RX3 81 "LastsToNext$Road" "stopPence" "I", Cond.fieldLink RX3 84 "LastsToNext$Road" "stopMinutes" "I", Cond.methodLink RX3 78 yX3_keep, Cond.instanceMethod yX3_keep, Cond.selects RX3 yX3_keep yX3_keep, Cond.code yX3_keep cX3_keep 1 none, Cond.fieldLink RX3 63 "LastsToNext$Journey" "latest" "I", Cond.methodLink RX3 66 arraycopyName, Cond.methodLink RX3 72 Lib.Math.min.name, Cond.methodLink RL 220 yX11_fill, Cond.instanceMethod yX11_fill, Cond.selects RX11 yX11_fill yX11_fill, Cond.code yX11_fill cX11_fill 2 (some .int)]
def wsL_law0_r63 : List Cond := [Cond.methodLink RX11 431 yX11_note, Cond.instanceMethod yX11_note, Cond.selects RX11 yX11_note yX11_note, Cond.code yX11_note cX11_note 2 none, Cond.methodLink RL 221 yX10_drive, Cond.instanceMethod yX10_drive, Cond.selects RX10 yX10_drive yX10_drive, Cond.code yX10_drive cX10_drive 3 (some .int), Cond.methodLink RX10 322 yX3_canGo, Cond.instanceMethod yX3_canGo, Cond.selects RX3 yX3_canGo yX3_canGo, Cond.code yX3_canGo cX3_canGo 3 (some .boolean), Cond.methodLink RX3 87 yX9_isRoad, Cond.methodLink RX3 91 yX9_pintsOf, Cond.methodLink RX10 326 yX3_goTo, Cond.instanceMethod yX3_goTo, Cond.selects RX3 yX3_goTo yX3_goTo, Cond.code yX3_goTo cX3_goTo 3 none, Cond.methodLink RX3 94 yX9_minutesOf, Cond.methodLink RL 224 yX11_drive, Cond.instanceMethod yX11_drive, Cond.selects RX11 yX11_drive yX11_drive, Cond.code yX11_drive cX11_drive 3 (some .int), Cond.methodLink RL 225 yX10_waits]
def wsL_law0_r64 : List Cond := [Cond.instanceMethod yX10_waits, Cond.selects RX10 yX10_waits yX10_waits, Cond.code yX10_waits cX10_waits 1 (some .int), Cond.methodLink RX10 329 yX3_stay, Cond.instanceMethod yX3_stay, Cond.selects RX3 yX3_stay yX3_stay, Cond.code yX3_stay cX3_stay 2 none, Cond.methodLink RL 228 yX11_waits, Cond.instanceMethod yX11_waits, Cond.selects RX11 yX11_waits yX11_waits, Cond.code yX11_waits cX11_waits 1 (some .int), Cond.methodLink RL 229 yX10_seed, Cond.instanceMethod yX10_seed, Cond.selects RX10 yX10_seed yX10_seed, Cond.code yX10_seed cX10_seed 2 (some .boolean), Cond.methodLink RL 233 yX11_seed, Cond.instanceMethod yX11_seed, Cond.selects RX11 yX11_seed yX11_seed, Cond.code yX11_seed cX11_seed 2 (some .boolean), Cond.methodLink RL 234 yX10_undo, Cond.instanceMethod yX10_undo, Cond.selects RX10 yX10_undo yX10_undo, Cond.code yX10_undo cX10_undo 1 (some .boolean), Cond.fieldLink RX10 335 "LastsToNext$Journey" "undoable" "I"]
def wsL_law0_r65 : List Cond := [Cond.methodLink RX10 338 yX3_takeBack, Cond.instanceMethod yX3_takeBack, Cond.selects RX3 yX3_takeBack yX3_takeBack, Cond.code yX3_takeBack cX3_takeBack 1 none, Cond.methodLink RL 238 yX11_undo, Cond.instanceMethod yX11_undo, Cond.selects RX11 yX11_undo yX11_undo, Cond.code yX11_undo cX11_undo 1 (some .boolean), Cond.methodLink RL 239 yX10_image, Cond.instanceMethod yX10_image, Cond.selects RX10 yX10_image yX10_image, Cond.code yX10_image cX10_image 1 (some .int), Cond.fieldLink RX10 341 "LastsToNext$Journey" "pictured" "I", Cond.methodLink RX10 344 yX3_picture, Cond.instanceMethod yX3_picture, Cond.selects RX3 yX3_picture yX3_picture, Cond.code yX3_picture cX3_picture 1 (some .int), Cond.methodLink RL 242 yX11_image, Cond.instanceMethod yX11_image, Cond.selects RX11 yX11_image yX11_image, Cond.code yX11_image cX11_image 1 (some .int), Cond.methodLink RL 243 yX10_back, Cond.instanceMethod yX10_back, Cond.selects RX10 yX10_back yX10_back]
def wsL_law0_r66 : List Cond := [Cond.code yX10_back cX10_back 2 (some .boolean), Cond.methodLink RX10 348 yX3_returnTo, Cond.instanceMethod yX3_returnTo, Cond.selects RX3 yX3_returnTo yX3_returnTo, Cond.code yX3_returnTo cX3_returnTo 2 none, Cond.methodLink RL 246 yX11_back, Cond.instanceMethod yX11_back, Cond.selects RX11 yX11_back yX11_back, Cond.code yX11_back cX11_back 2 (some .boolean), Cond.methodLink RL 247 yL_led, Cond.static yL_led, Cond.initialized RL, Cond.codeWith yL_led cL_led 4 (some .int) [(0, 9, 12, 13)], Cond.classLink RL 13 "java/util/NoSuchElementException", Cond.methodLink RL 7 yX10_led, Cond.instanceMethod yX10_led, Cond.selects RX10 yX10_led yX10_led, Cond.code yX10_led cX10_led 3 (some .int), Cond.classLink RX10 354 "java/util/NoSuchElementException", Cond.initialized "java/util/NoSuchElementException", Cond.methodLink RX10 351 yX3_openPlace, Cond.instanceMethod yX3_openPlace, Cond.selects RX3 yX3_openPlace yX3_openPlace, Cond.code yX3_openPlace cX3_openPlace 5 (some .int)]
def wsL_law0_r67 : List Cond := [Cond.fieldLink RX3 97 "LastsToNext$Road" "places" "I", Cond.methodLink RX3 100 yX3_canGo, Cond.methodLink RL 252 yX11_led, Cond.instanceMethod yX11_led, Cond.selects RX11 yX11_led yX11_led, Cond.code yX11_led cX11_led 4 (some .int), Cond.methodLink RL 253 yX11_thrown, Cond.instanceMethod yX11_thrown, Cond.selects RX11 yX11_thrown yX11_thrown, Cond.code yX11_thrown cX11_thrown 1 (some .int), Cond.methodLink RL 256 yX10_size, Cond.instanceMethod yX10_size, Cond.selects RX10 yX10_size yX10_size, Cond.code yX10_size cX10_size 2 (some .int), Cond.methodLink RX10 361 yX9_sizeOf, Cond.instanceMethod yX9_sizeOf, Cond.selects RX9 yX9_sizeOf yX9_sizeOf, Cond.code yX9_sizeOf cX9_sizeOf 2 (some .int), Cond.methodLink RL 259 yX11_size, Cond.instanceMethod yX11_size, Cond.selects RX11 yX11_size yX11_size, Cond.code yX11_size cX11_size 2 (some .int), Cond.methodLink RL 260 yX10_trouble, Cond.instanceMethod yX10_trouble]
def wsL_law0_r68 : List Cond := [Cond.selects RX10 yX10_trouble yX10_trouble, Cond.code yX10_trouble cX10_trouble 1 (some .int), Cond.methodLink RL 263 yX11_trouble, Cond.instanceMethod yX11_trouble, Cond.selects RX11 yX11_trouble yX11_trouble, Cond.code yX11_trouble cX11_trouble 1 (some .int)]
def wsL_law0 : List Cond := (wsL_law0_r1 ++ (wsL_law0_r2 ++ (wsL_law0_r3 ++ (wsL_law0_r4 ++ (wsL_law0_r5 ++ (wsL_law0_r6 ++ (wsL_law0_r7 ++ (wsL_law0_r8 ++ (wsL_law0_r9 ++ (wsL_law0_r10 ++ (wsL_law0_r11 ++ (wsL_law0_r12 ++ (wsL_law0_r13 ++ (wsL_law0_r14 ++ (wsL_law0_r15 ++ (wsL_law0_r16 ++ (wsL_law0_r17 ++ (wsL_law0_r18 ++ (wsL_law0_r19 ++ (wsL_law0_r20 ++ (wsL_law0_r21 ++ (wsL_law0_r22 ++ (wsL_law0_r23 ++ (wsL_law0_r24 ++ (wsL_law0_r25 ++ (wsL_law0_r26 ++ (wsL_law0_r27 ++ (wsL_law0_r28 ++ (wsL_law0_r29 ++ (wsL_law0_r30 ++ (wsL_law0_r31 ++ (wsL_law0_r32 ++ (wsL_law0_r33 ++ (wsL_law0_r34 ++ (wsL_law0_r35 ++ (wsL_law0_r36 ++ (wsL_law0_r37 ++ (wsL_law0_r38 ++ (wsL_law0_r39 ++ (wsL_law0_r40 ++ (wsL_law0_r41 ++ (wsL_law0_r42 ++ (wsL_law0_r43 ++ (wsL_law0_r44 ++ (wsL_law0_r45 ++ (wsL_law0_r46 ++ (wsL_law0_r47 ++ (wsL_law0_r48 ++ (wsL_law0_r49 ++ (wsL_law0_r50 ++ (wsL_law0_r51 ++ (wsL_law0_r52 ++ (wsL_law0_r53 ++ (wsL_law0_r54 ++ (wsL_law0_r55 ++ (wsL_law0_r56 ++ (wsL_law0_r57 ++ (wsL_law0_r58 ++ (wsL_law0_r59 ++ (wsL_law0_r60 ++ (wsL_law0_r61 ++ (wsL_law0_r62 ++ (wsL_law0_r63 ++ (wsL_law0_r64 ++ (wsL_law0_r65 ++ (wsL_law0_r66 ++ (wsL_law0_r67 ++ wsL_law0_r68))))))))))))))))))))))))))))))))))))))))))))))))))))))))))))))))))) ++ wsX100 ++ wsX110 ++ wsX90 ++ wsX70 ++ wsX60 ++ wsX10 ++ wsX50 ++ wsX80 ++ wsX30 ++ wsX20 ++ wsX00 ++ ([] : List Cond)
def rx13 : ByteArray := ⟨#[0x2a, 0x2b, 0xb7, 0x00, 0x0d, 0xb1]⟩
/-! the words that the throw of a class needs whose constructor passes its text on by an index of its own (X by ix to y9, then r9 by 7) -/
def xoAt (own : String) (ic : Nat) (X : String) (ix : Nat) (rx : ByteArray) (y9 : String) (r9 : List String) : List Cond :=
  Bundle.throwableAtoms ++ Bundle.throwableSAtoms ++ (Bundle.passSAtoms X y9 ix rx ++ Bundle.chainSAtoms y9 r9) ++ [Cond.methodLink own ic (Bundle.initS X), Cond.instantiable X 6] ++ ([Bundle.tFill0, Bundle.tFill].map fun t => Cond.selects X t t) ++
  ([("cause", "Ljava/lang/Throwable;"), ("stackTrace", Bundle.steD), ("suppressedExceptions", Bundle.listD), ("detailMessage", "Ljava/lang/String;"), ("backtrace", "Ljava/lang/Object;")].map fun q => Cond.lays X Bundle.tN q.1 q.2) ++
  [Cond.lays Bundle.tN Bundle.tN "backtrace" "Ljava/lang/Object;", Cond.fieldLink Bundle.tN 198 Bundle.tN "backtrace" "Ljava/lang/Object;"] ++ ([("UNASSIGNED_STACK", Bundle.steD), ("SUPPRESSED_SENTINEL", Bundle.listD)].map fun q => Cond.isRef (.static Bundle.tN q.1 q.2))
def xatS : List Cond := (xoAt RX10 358 "java/util/NoSuchElementException" 13 rx13 "java/lang/RuntimeException" ["java/lang/Exception"]).filter vx_no
def wsL_law : List Cond := wsL_law0 ++ xatS.filter goodWord
theorem inlX0 : ∀ w ∈ wsX00, w ∈ wsL_law := fun _ h => List.mem_append_left _ (List.mem_append_left _ (List.mem_append_right _ h))
theorem inlX1 : ∀ w ∈ wsX10, w ∈ wsL_law := fun _ h => List.mem_append_left _ (List.mem_append_left _ (List.mem_append_left _ (List.mem_append_left _ (List.mem_append_left _ (List.mem_append_left _ (List.mem_append_left _ (List.mem_append_right _ h)))))))
theorem inlX2 : ∀ w ∈ wsX20, w ∈ wsL_law := fun _ h => List.mem_append_left _ (List.mem_append_left _ (List.mem_append_left _ (List.mem_append_right _ h)))
theorem inlX3 : ∀ w ∈ wsX30, w ∈ wsL_law := fun _ h => List.mem_append_left _ (List.mem_append_left _ (List.mem_append_left _ (List.mem_append_left _ (List.mem_append_right _ h))))
theorem inlX5 : ∀ w ∈ wsX50, w ∈ wsL_law := fun _ h => List.mem_append_left _ (List.mem_append_left _ (List.mem_append_left _ (List.mem_append_left _ (List.mem_append_left _ (List.mem_append_left _ (List.mem_append_right _ h))))))
theorem inlX6 : ∀ w ∈ wsX60, w ∈ wsL_law := fun _ h => List.mem_append_left _ (List.mem_append_left _ (List.mem_append_left _ (List.mem_append_left _ (List.mem_append_left _ (List.mem_append_left _ (List.mem_append_left _ (List.mem_append_left _ (List.mem_append_right _ h))))))))
theorem inlX7 : ∀ w ∈ wsX70, w ∈ wsL_law := fun _ h => List.mem_append_left _ (List.mem_append_left _ (List.mem_append_left _ (List.mem_append_left _ (List.mem_append_left _ (List.mem_append_left _ (List.mem_append_left _ (List.mem_append_left _ (List.mem_append_left _ (List.mem_append_right _ h)))))))))
theorem inlX8 : ∀ w ∈ wsX80, w ∈ wsL_law := fun _ h => List.mem_append_left _ (List.mem_append_left _ (List.mem_append_left _ (List.mem_append_left _ (List.mem_append_left _ (List.mem_append_right _ h)))))
theorem inlX9 : ∀ w ∈ wsX90, w ∈ wsL_law := fun _ h => List.mem_append_left _ (List.mem_append_left _ (List.mem_append_left _ (List.mem_append_left _ (List.mem_append_left _ (List.mem_append_left _ (List.mem_append_left _ (List.mem_append_left _ (List.mem_append_left _ (List.mem_append_left _ (List.mem_append_right _ h))))))))))
theorem inlX10 : ∀ w ∈ wsX100, w ∈ wsL_law := fun _ h => List.mem_append_left _ (List.mem_append_left _ (List.mem_append_left _ (List.mem_append_left _ (List.mem_append_left _ (List.mem_append_left _ (List.mem_append_left _ (List.mem_append_left _ (List.mem_append_left _ (List.mem_append_left _ (List.mem_append_left _ (List.mem_append_left _ (List.mem_append_right _ h))))))))))))
theorem inlX11 : ∀ w ∈ wsX110, w ∈ wsL_law := fun _ h => List.mem_append_left _ (List.mem_append_left _ (List.mem_append_left _ (List.mem_append_left _ (List.mem_append_left _ (List.mem_append_left _ (List.mem_append_left _ (List.mem_append_left _ (List.mem_append_left _ (List.mem_append_left _ (List.mem_append_left _ (List.mem_append_right _ h)))))))))))
abbrev vwCl : List vw_C := [(RX0, TX0, 1), (RX1, TX1, 6), (RX2, TX2, 2), (RX3, TX3, 7), (RX5, TX5, 3), (RX6, TX6, 4), (RX7, TX7, 11), (RX8, TX8, 8), (RX9, TX9, 19), (RX10, TX10, 14), (RX11, TX11, 41)]
theorem mB1 : ∀ w ∈ wsL_law0_r1, w ∈ wsL_law := fun w h => List.mem_append_left _ (List.mem_append_left _ (List.mem_append_left _ (List.mem_append_left _ (List.mem_append_left _ (List.mem_append_left _ (List.mem_append_left _ (List.mem_append_left _ (List.mem_append_left _ (List.mem_append_left _ (List.mem_append_left _ (List.mem_append_left _ (List.mem_append_left _ (List.mem_append_left _ (h))))))))))))))
theorem mB2 : ∀ w ∈ wsL_law0_r2, w ∈ wsL_law := fun w h => List.mem_append_left _ (List.mem_append_left _ (List.mem_append_left _ (List.mem_append_left _ (List.mem_append_left _ (List.mem_append_left _ (List.mem_append_left _ (List.mem_append_left _ (List.mem_append_left _ (List.mem_append_left _ (List.mem_append_left _ (List.mem_append_left _ (List.mem_append_left _ (List.mem_append_right _ (List.mem_append_left _ (h)))))))))))))))
theorem mB3 : ∀ w ∈ wsL_law0_r3, w ∈ wsL_law := fun w h => List.mem_append_left _ (List.mem_append_left _ (List.mem_append_left _ (List.mem_append_left _ (List.mem_append_left _ (List.mem_append_left _ (List.mem_append_left _ (List.mem_append_left _ (List.mem_append_left _ (List.mem_append_left _ (List.mem_append_left _ (List.mem_append_left _ (List.mem_append_left _ (List.mem_append_right _ (List.mem_append_right _ (List.mem_append_left _ (h))))))))))))))))
theorem mB4 : ∀ w ∈ wsL_law0_r4, w ∈ wsL_law := fun w h => List.mem_append_left _ (List.mem_append_left _ (List.mem_append_left _ (List.mem_append_left _ (List.mem_append_left _ (List.mem_append_left _ (List.mem_append_left _ (List.mem_append_left _ (List.mem_append_left _ (List.mem_append_left _ (List.mem_append_left _ (List.mem_append_left _ (List.mem_append_left _ (List.mem_append_right _ (List.mem_append_right _ (List.mem_append_right _ (List.mem_append_left _ (h)))))))))))))))))
theorem mB5 : ∀ w ∈ wsL_law0_r5, w ∈ wsL_law := fun w h => List.mem_append_left _ (List.mem_append_left _ (List.mem_append_left _ (List.mem_append_left _ (List.mem_append_left _ (List.mem_append_left _ (List.mem_append_left _ (List.mem_append_left _ (List.mem_append_left _ (List.mem_append_left _ (List.mem_append_left _ (List.mem_append_left _ (List.mem_append_left _ (List.mem_append_right _ (List.mem_append_right _ (List.mem_append_right _ (List.mem_append_right _ (List.mem_append_left _ (h))))))))))))))))))
theorem mB6 : ∀ w ∈ wsL_law0_r6, w ∈ wsL_law := fun w h => List.mem_append_left _ (List.mem_append_left _ (List.mem_append_left _ (List.mem_append_left _ (List.mem_append_left _ (List.mem_append_left _ (List.mem_append_left _ (List.mem_append_left _ (List.mem_append_left _ (List.mem_append_left _ (List.mem_append_left _ (List.mem_append_left _ (List.mem_append_left _ (List.mem_append_right _ (List.mem_append_right _ (List.mem_append_right _ (List.mem_append_right _ (List.mem_append_right _ (List.mem_append_left _ (h)))))))))))))))))))
theorem mB7 : ∀ w ∈ wsL_law0_r7, w ∈ wsL_law := fun w h => List.mem_append_left _ (List.mem_append_left _ (List.mem_append_left _ (List.mem_append_left _ (List.mem_append_left _ (List.mem_append_left _ (List.mem_append_left _ (List.mem_append_left _ (List.mem_append_left _ (List.mem_append_left _ (List.mem_append_left _ (List.mem_append_left _ (List.mem_append_left _ (List.mem_append_right _ (List.mem_append_right _ (List.mem_append_right _ (List.mem_append_right _ (List.mem_append_right _ (List.mem_append_right _ (List.mem_append_left _ (h))))))))))))))))))))
theorem mB8 : ∀ w ∈ wsL_law0_r8, w ∈ wsL_law := fun w h => List.mem_append_left _ (List.mem_append_left _ (List.mem_append_left _ (List.mem_append_left _ (List.mem_append_left _ (List.mem_append_left _ (List.mem_append_left _ (List.mem_append_left _ (List.mem_append_left _ (List.mem_append_left _ (List.mem_append_left _ (List.mem_append_left _ (List.mem_append_left _ (List.mem_append_right _ (List.mem_append_right _ (List.mem_append_right _ (List.mem_append_right _ (List.mem_append_right _ (List.mem_append_right _ (List.mem_append_right _ (List.mem_append_left _ (h)))))))))))))))))))))
theorem mB9 : ∀ w ∈ wsL_law0_r9, w ∈ wsL_law := fun w h => List.mem_append_left _ (List.mem_append_left _ (List.mem_append_left _ (List.mem_append_left _ (List.mem_append_left _ (List.mem_append_left _ (List.mem_append_left _ (List.mem_append_left _ (List.mem_append_left _ (List.mem_append_left _ (List.mem_append_left _ (List.mem_append_left _ (List.mem_append_left _ (List.mem_append_right _ (List.mem_append_right _ (List.mem_append_right _ (List.mem_append_right _ (List.mem_append_right _ (List.mem_append_right _ (List.mem_append_right _ (List.mem_append_right _ (List.mem_append_left _ (h))))))))))))))))))))))
theorem mB10 : ∀ w ∈ wsL_law0_r10, w ∈ wsL_law := fun w h => List.mem_append_left _ (List.mem_append_left _ (List.mem_append_left _ (List.mem_append_left _ (List.mem_append_left _ (List.mem_append_left _ (List.mem_append_left _ (List.mem_append_left _ (List.mem_append_left _ (List.mem_append_left _ (List.mem_append_left _ (List.mem_append_left _ (List.mem_append_left _ (List.mem_append_right _ (List.mem_append_right _ (List.mem_append_right _ (List.mem_append_right _ (List.mem_append_right _ (List.mem_append_right _ (List.mem_append_right _ (List.mem_append_right _ (List.mem_append_right _ (List.mem_append_left _ (h)))))))))))))))))))))))
theorem mB11 : ∀ w ∈ wsL_law0_r11, w ∈ wsL_law := fun w h => List.mem_append_left _ (List.mem_append_left _ (List.mem_append_left _ (List.mem_append_left _ (List.mem_append_left _ (List.mem_append_left _ (List.mem_append_left _ (List.mem_append_left _ (List.mem_append_left _ (List.mem_append_left _ (List.mem_append_left _ (List.mem_append_left _ (List.mem_append_left _ (List.mem_append_right _ (List.mem_append_right _ (List.mem_append_right _ (List.mem_append_right _ (List.mem_append_right _ (List.mem_append_right _ (List.mem_append_right _ (List.mem_append_right _ (List.mem_append_right _ (List.mem_append_right _ (List.mem_append_left _ (h))))))))))))))))))))))))
theorem mB12 : ∀ w ∈ wsL_law0_r12, w ∈ wsL_law := fun w h => List.mem_append_left _ (List.mem_append_left _ (List.mem_append_left _ (List.mem_append_left _ (List.mem_append_left _ (List.mem_append_left _ (List.mem_append_left _ (List.mem_append_left _ (List.mem_append_left _ (List.mem_append_left _ (List.mem_append_left _ (List.mem_append_left _ (List.mem_append_left _ (List.mem_append_right _ (List.mem_append_right _ (List.mem_append_right _ (List.mem_append_right _ (List.mem_append_right _ (List.mem_append_right _ (List.mem_append_right _ (List.mem_append_right _ (List.mem_append_right _ (List.mem_append_right _ (List.mem_append_right _ (List.mem_append_left _ (h)))))))))))))))))))))))))
theorem mB13 : ∀ w ∈ wsL_law0_r13, w ∈ wsL_law := fun w h => List.mem_append_left _ (List.mem_append_left _ (List.mem_append_left _ (List.mem_append_left _ (List.mem_append_left _ (List.mem_append_left _ (List.mem_append_left _ (List.mem_append_left _ (List.mem_append_left _ (List.mem_append_left _ (List.mem_append_left _ (List.mem_append_left _ (List.mem_append_left _ (List.mem_append_right _ (List.mem_append_right _ (List.mem_append_right _ (List.mem_append_right _ (List.mem_append_right _ (List.mem_append_right _ (List.mem_append_right _ (List.mem_append_right _ (List.mem_append_right _ (List.mem_append_right _ (List.mem_append_right _ (List.mem_append_right _ (List.mem_append_left _ (h))))))))))))))))))))))))))
theorem mB14 : ∀ w ∈ wsL_law0_r14, w ∈ wsL_law := fun w h => List.mem_append_left _ (List.mem_append_left _ (List.mem_append_left _ (List.mem_append_left _ (List.mem_append_left _ (List.mem_append_left _ (List.mem_append_left _ (List.mem_append_left _ (List.mem_append_left _ (List.mem_append_left _ (List.mem_append_left _ (List.mem_append_left _ (List.mem_append_left _ (List.mem_append_right _ (List.mem_append_right _ (List.mem_append_right _ (List.mem_append_right _ (List.mem_append_right _ (List.mem_append_right _ (List.mem_append_right _ (List.mem_append_right _ (List.mem_append_right _ (List.mem_append_right _ (List.mem_append_right _ (List.mem_append_right _ (List.mem_append_right _ (List.mem_append_left _ (h)))))))))))))))))))))))))))
theorem mB15 : ∀ w ∈ wsL_law0_r15, w ∈ wsL_law := fun w h => List.mem_append_left _ (List.mem_append_left _ (List.mem_append_left _ (List.mem_append_left _ (List.mem_append_left _ (List.mem_append_left _ (List.mem_append_left _ (List.mem_append_left _ (List.mem_append_left _ (List.mem_append_left _ (List.mem_append_left _ (List.mem_append_left _ (List.mem_append_left _ (List.mem_append_right _ (List.mem_append_right _ (List.mem_append_right _ (List.mem_append_right _ (List.mem_append_right _ (List.mem_append_right _ (List.mem_append_right _ (List.mem_append_right _ (List.mem_append_right _ (List.mem_append_right _ (List.mem_append_right _ (List.mem_append_right _ (List.mem_append_right _ (List.mem_append_right _ (List.mem_append_left _ (h))))))))))))))))))))))))))))
theorem mB16 : ∀ w ∈ wsL_law0_r16, w ∈ wsL_law := fun w h => List.mem_append_left _ (List.mem_append_left _ (List.mem_append_left _ (List.mem_append_left _ (List.mem_append_left _ (List.mem_append_left _ (List.mem_append_left _ (List.mem_append_left _ (List.mem_append_left _ (List.mem_append_left _ (List.mem_append_left _ (List.mem_append_left _ (List.mem_append_left _ (List.mem_append_right _ (List.mem_append_right _ (List.mem_append_right _ (List.mem_append_right _ (List.mem_append_right _ (List.mem_append_right _ (List.mem_append_right _ (List.mem_append_right _ (List.mem_append_right _ (List.mem_append_right _ (List.mem_append_right _ (List.mem_append_right _ (List.mem_append_right _ (List.mem_append_right _ (List.mem_append_right _ (List.mem_append_left _ (h)))))))))))))))))))))))))))))
theorem mB17 : ∀ w ∈ wsL_law0_r17, w ∈ wsL_law := fun w h => List.mem_append_left _ (List.mem_append_left _ (List.mem_append_left _ (List.mem_append_left _ (List.mem_append_left _ (List.mem_append_left _ (List.mem_append_left _ (List.mem_append_left _ (List.mem_append_left _ (List.mem_append_left _ (List.mem_append_left _ (List.mem_append_left _ (List.mem_append_left _ (List.mem_append_right _ (List.mem_append_right _ (List.mem_append_right _ (List.mem_append_right _ (List.mem_append_right _ (List.mem_append_right _ (List.mem_append_right _ (List.mem_append_right _ (List.mem_append_right _ (List.mem_append_right _ (List.mem_append_right _ (List.mem_append_right _ (List.mem_append_right _ (List.mem_append_right _ (List.mem_append_right _ (List.mem_append_right _ (List.mem_append_left _ (h))))))))))))))))))))))))))))))
theorem mB18 : ∀ w ∈ wsL_law0_r18, w ∈ wsL_law := fun w h => List.mem_append_left _ (List.mem_append_left _ (List.mem_append_left _ (List.mem_append_left _ (List.mem_append_left _ (List.mem_append_left _ (List.mem_append_left _ (List.mem_append_left _ (List.mem_append_left _ (List.mem_append_left _ (List.mem_append_left _ (List.mem_append_left _ (List.mem_append_left _ (List.mem_append_right _ (List.mem_append_right _ (List.mem_append_right _ (List.mem_append_right _ (List.mem_append_right _ (List.mem_append_right _ (List.mem_append_right _ (List.mem_append_right _ (List.mem_append_right _ (List.mem_append_right _ (List.mem_append_right _ (List.mem_append_right _ (List.mem_append_right _ (List.mem_append_right _ (List.mem_append_right _ (List.mem_append_right _ (List.mem_append_right _ (List.mem_append_left _ (h)))))))))))))))))))))))))))))))
theorem mB19 : ∀ w ∈ wsL_law0_r19, w ∈ wsL_law := fun w h => List.mem_append_left _ (List.mem_append_left _ (List.mem_append_left _ (List.mem_append_left _ (List.mem_append_left _ (List.mem_append_left _ (List.mem_append_left _ (List.mem_append_left _ (List.mem_append_left _ (List.mem_append_left _ (List.mem_append_left _ (List.mem_append_left _ (List.mem_append_left _ (List.mem_append_right _ (List.mem_append_right _ (List.mem_append_right _ (List.mem_append_right _ (List.mem_append_right _ (List.mem_append_right _ (List.mem_append_right _ (List.mem_append_right _ (List.mem_append_right _ (List.mem_append_right _ (List.mem_append_right _ (List.mem_append_right _ (List.mem_append_right _ (List.mem_append_right _ (List.mem_append_right _ (List.mem_append_right _ (List.mem_append_right _ (List.mem_append_right _ (List.mem_append_left _ (h))))))))))))))))))))))))))))))))
theorem mB20 : ∀ w ∈ wsL_law0_r20, w ∈ wsL_law := fun w h => List.mem_append_left _ (List.mem_append_left _ (List.mem_append_left _ (List.mem_append_left _ (List.mem_append_left _ (List.mem_append_left _ (List.mem_append_left _ (List.mem_append_left _ (List.mem_append_left _ (List.mem_append_left _ (List.mem_append_left _ (List.mem_append_left _ (List.mem_append_left _ (List.mem_append_right _ (List.mem_append_right _ (List.mem_append_right _ (List.mem_append_right _ (List.mem_append_right _ (List.mem_append_right _ (List.mem_append_right _ (List.mem_append_right _ (List.mem_append_right _ (List.mem_append_right _ (List.mem_append_right _ (List.mem_append_right _ (List.mem_append_right _ (List.mem_append_right _ (List.mem_append_right _ (List.mem_append_right _ (List.mem_append_right _ (List.mem_append_right _ (List.mem_append_right _ (List.mem_append_left _ (h)))))))))))))))))))))))))))))))))
theorem mB21 : ∀ w ∈ wsL_law0_r21, w ∈ wsL_law := fun w h => List.mem_append_left _ (List.mem_append_left _ (List.mem_append_left _ (List.mem_append_left _ (List.mem_append_left _ (List.mem_append_left _ (List.mem_append_left _ (List.mem_append_left _ (List.mem_append_left _ (List.mem_append_left _ (List.mem_append_left _ (List.mem_append_left _ (List.mem_append_left _ (List.mem_append_right _ (List.mem_append_right _ (List.mem_append_right _ (List.mem_append_right _ (List.mem_append_right _ (List.mem_append_right _ (List.mem_append_right _ (List.mem_append_right _ (List.mem_append_right _ (List.mem_append_right _ (List.mem_append_right _ (List.mem_append_right _ (List.mem_append_right _ (List.mem_append_right _ (List.mem_append_right _ (List.mem_append_right _ (List.mem_append_right _ (List.mem_append_right _ (List.mem_append_right _ (List.mem_append_right _ (List.mem_append_left _ (h))))))))))))))))))))))))))))))))))
theorem mB22 : ∀ w ∈ wsL_law0_r22, w ∈ wsL_law := fun w h => List.mem_append_left _ (List.mem_append_left _ (List.mem_append_left _ (List.mem_append_left _ (List.mem_append_left _ (List.mem_append_left _ (List.mem_append_left _ (List.mem_append_left _ (List.mem_append_left _ (List.mem_append_left _ (List.mem_append_left _ (List.mem_append_left _ (List.mem_append_left _ (List.mem_append_right _ (List.mem_append_right _ (List.mem_append_right _ (List.mem_append_right _ (List.mem_append_right _ (List.mem_append_right _ (List.mem_append_right _ (List.mem_append_right _ (List.mem_append_right _ (List.mem_append_right _ (List.mem_append_right _ (List.mem_append_right _ (List.mem_append_right _ (List.mem_append_right _ (List.mem_append_right _ (List.mem_append_right _ (List.mem_append_right _ (List.mem_append_right _ (List.mem_append_right _ (List.mem_append_right _ (List.mem_append_right _ (List.mem_append_left _ (h)))))))))))))))))))))))))))))))))))
theorem mB23 : ∀ w ∈ wsL_law0_r23, w ∈ wsL_law := fun w h => List.mem_append_left _ (List.mem_append_left _ (List.mem_append_left _ (List.mem_append_left _ (List.mem_append_left _ (List.mem_append_left _ (List.mem_append_left _ (List.mem_append_left _ (List.mem_append_left _ (List.mem_append_left _ (List.mem_append_left _ (List.mem_append_left _ (List.mem_append_left _ (List.mem_append_right _ (List.mem_append_right _ (List.mem_append_right _ (List.mem_append_right _ (List.mem_append_right _ (List.mem_append_right _ (List.mem_append_right _ (List.mem_append_right _ (List.mem_append_right _ (List.mem_append_right _ (List.mem_append_right _ (List.mem_append_right _ (List.mem_append_right _ (List.mem_append_right _ (List.mem_append_right _ (List.mem_append_right _ (List.mem_append_right _ (List.mem_append_right _ (List.mem_append_right _ (List.mem_append_right _ (List.mem_append_right _ (List.mem_append_right _ (List.mem_append_left _ (h))))))))))))))))))))))))))))))))))))
theorem mB24 : ∀ w ∈ wsL_law0_r24, w ∈ wsL_law := fun w h => List.mem_append_left _ (List.mem_append_left _ (List.mem_append_left _ (List.mem_append_left _ (List.mem_append_left _ (List.mem_append_left _ (List.mem_append_left _ (List.mem_append_left _ (List.mem_append_left _ (List.mem_append_left _ (List.mem_append_left _ (List.mem_append_left _ (List.mem_append_left _ (List.mem_append_right _ (List.mem_append_right _ (List.mem_append_right _ (List.mem_append_right _ (List.mem_append_right _ (List.mem_append_right _ (List.mem_append_right _ (List.mem_append_right _ (List.mem_append_right _ (List.mem_append_right _ (List.mem_append_right _ (List.mem_append_right _ (List.mem_append_right _ (List.mem_append_right _ (List.mem_append_right _ (List.mem_append_right _ (List.mem_append_right _ (List.mem_append_right _ (List.mem_append_right _ (List.mem_append_right _ (List.mem_append_right _ (List.mem_append_right _ (List.mem_append_right _ (List.mem_append_left _ (h)))))))))))))))))))))))))))))))))))))
theorem mB25 : ∀ w ∈ wsL_law0_r25, w ∈ wsL_law := fun w h => List.mem_append_left _ (List.mem_append_left _ (List.mem_append_left _ (List.mem_append_left _ (List.mem_append_left _ (List.mem_append_left _ (List.mem_append_left _ (List.mem_append_left _ (List.mem_append_left _ (List.mem_append_left _ (List.mem_append_left _ (List.mem_append_left _ (List.mem_append_left _ (List.mem_append_right _ (List.mem_append_right _ (List.mem_append_right _ (List.mem_append_right _ (List.mem_append_right _ (List.mem_append_right _ (List.mem_append_right _ (List.mem_append_right _ (List.mem_append_right _ (List.mem_append_right _ (List.mem_append_right _ (List.mem_append_right _ (List.mem_append_right _ (List.mem_append_right _ (List.mem_append_right _ (List.mem_append_right _ (List.mem_append_right _ (List.mem_append_right _ (List.mem_append_right _ (List.mem_append_right _ (List.mem_append_right _ (List.mem_append_right _ (List.mem_append_right _ (List.mem_append_right _ (List.mem_append_left _ (h))))))))))))))))))))))))))))))))))))))
theorem mB26 : ∀ w ∈ wsL_law0_r26, w ∈ wsL_law := fun w h => List.mem_append_left _ (List.mem_append_left _ (List.mem_append_left _ (List.mem_append_left _ (List.mem_append_left _ (List.mem_append_left _ (List.mem_append_left _ (List.mem_append_left _ (List.mem_append_left _ (List.mem_append_left _ (List.mem_append_left _ (List.mem_append_left _ (List.mem_append_left _ (List.mem_append_right _ (List.mem_append_right _ (List.mem_append_right _ (List.mem_append_right _ (List.mem_append_right _ (List.mem_append_right _ (List.mem_append_right _ (List.mem_append_right _ (List.mem_append_right _ (List.mem_append_right _ (List.mem_append_right _ (List.mem_append_right _ (List.mem_append_right _ (List.mem_append_right _ (List.mem_append_right _ (List.mem_append_right _ (List.mem_append_right _ (List.mem_append_right _ (List.mem_append_right _ (List.mem_append_right _ (List.mem_append_right _ (List.mem_append_right _ (List.mem_append_right _ (List.mem_append_right _ (List.mem_append_right _ (List.mem_append_left _ (h)))))))))))))))))))))))))))))))))))))))
theorem mB27 : ∀ w ∈ wsL_law0_r27, w ∈ wsL_law := fun w h => List.mem_append_left _ (List.mem_append_left _ (List.mem_append_left _ (List.mem_append_left _ (List.mem_append_left _ (List.mem_append_left _ (List.mem_append_left _ (List.mem_append_left _ (List.mem_append_left _ (List.mem_append_left _ (List.mem_append_left _ (List.mem_append_left _ (List.mem_append_left _ (List.mem_append_right _ (List.mem_append_right _ (List.mem_append_right _ (List.mem_append_right _ (List.mem_append_right _ (List.mem_append_right _ (List.mem_append_right _ (List.mem_append_right _ (List.mem_append_right _ (List.mem_append_right _ (List.mem_append_right _ (List.mem_append_right _ (List.mem_append_right _ (List.mem_append_right _ (List.mem_append_right _ (List.mem_append_right _ (List.mem_append_right _ (List.mem_append_right _ (List.mem_append_right _ (List.mem_append_right _ (List.mem_append_right _ (List.mem_append_right _ (List.mem_append_right _ (List.mem_append_right _ (List.mem_append_right _ (List.mem_append_right _ (List.mem_append_left _ (h))))))))))))))))))))))))))))))))))))))))
theorem mB28 : ∀ w ∈ wsL_law0_r28, w ∈ wsL_law := fun w h => List.mem_append_left _ (List.mem_append_left _ (List.mem_append_left _ (List.mem_append_left _ (List.mem_append_left _ (List.mem_append_left _ (List.mem_append_left _ (List.mem_append_left _ (List.mem_append_left _ (List.mem_append_left _ (List.mem_append_left _ (List.mem_append_left _ (List.mem_append_left _ (List.mem_append_right _ (List.mem_append_right _ (List.mem_append_right _ (List.mem_append_right _ (List.mem_append_right _ (List.mem_append_right _ (List.mem_append_right _ (List.mem_append_right _ (List.mem_append_right _ (List.mem_append_right _ (List.mem_append_right _ (List.mem_append_right _ (List.mem_append_right _ (List.mem_append_right _ (List.mem_append_right _ (List.mem_append_right _ (List.mem_append_right _ (List.mem_append_right _ (List.mem_append_right _ (List.mem_append_right _ (List.mem_append_right _ (List.mem_append_right _ (List.mem_append_right _ (List.mem_append_right _ (List.mem_append_right _ (List.mem_append_right _ (List.mem_append_right _ (List.mem_append_left _ (h)))))))))))))))))))))))))))))))))))))))))
theorem mB29 : ∀ w ∈ wsL_law0_r29, w ∈ wsL_law := fun w h => List.mem_append_left _ (List.mem_append_left _ (List.mem_append_left _ (List.mem_append_left _ (List.mem_append_left _ (List.mem_append_left _ (List.mem_append_left _ (List.mem_append_left _ (List.mem_append_left _ (List.mem_append_left _ (List.mem_append_left _ (List.mem_append_left _ (List.mem_append_left _ (List.mem_append_right _ (List.mem_append_right _ (List.mem_append_right _ (List.mem_append_right _ (List.mem_append_right _ (List.mem_append_right _ (List.mem_append_right _ (List.mem_append_right _ (List.mem_append_right _ (List.mem_append_right _ (List.mem_append_right _ (List.mem_append_right _ (List.mem_append_right _ (List.mem_append_right _ (List.mem_append_right _ (List.mem_append_right _ (List.mem_append_right _ (List.mem_append_right _ (List.mem_append_right _ (List.mem_append_right _ (List.mem_append_right _ (List.mem_append_right _ (List.mem_append_right _ (List.mem_append_right _ (List.mem_append_right _ (List.mem_append_right _ (List.mem_append_right _ (List.mem_append_right _ (List.mem_append_left _ (h))))))))))))))))))))))))))))))))))))))))))
theorem mB30 : ∀ w ∈ wsL_law0_r30, w ∈ wsL_law := fun w h => List.mem_append_left _ (List.mem_append_left _ (List.mem_append_left _ (List.mem_append_left _ (List.mem_append_left _ (List.mem_append_left _ (List.mem_append_left _ (List.mem_append_left _ (List.mem_append_left _ (List.mem_append_left _ (List.mem_append_left _ (List.mem_append_left _ (List.mem_append_left _ (List.mem_append_right _ (List.mem_append_right _ (List.mem_append_right _ (List.mem_append_right _ (List.mem_append_right _ (List.mem_append_right _ (List.mem_append_right _ (List.mem_append_right _ (List.mem_append_right _ (List.mem_append_right _ (List.mem_append_right _ (List.mem_append_right _ (List.mem_append_right _ (List.mem_append_right _ (List.mem_append_right _ (List.mem_append_right _ (List.mem_append_right _ (List.mem_append_right _ (List.mem_append_right _ (List.mem_append_right _ (List.mem_append_right _ (List.mem_append_right _ (List.mem_append_right _ (List.mem_append_right _ (List.mem_append_right _ (List.mem_append_right _ (List.mem_append_right _ (List.mem_append_right _ (List.mem_append_right _ (List.mem_append_left _ (h)))))))))))))))))))))))))))))))))))))))))))
theorem mB31 : ∀ w ∈ wsL_law0_r31, w ∈ wsL_law := fun w h => List.mem_append_left _ (List.mem_append_left _ (List.mem_append_left _ (List.mem_append_left _ (List.mem_append_left _ (List.mem_append_left _ (List.mem_append_left _ (List.mem_append_left _ (List.mem_append_left _ (List.mem_append_left _ (List.mem_append_left _ (List.mem_append_left _ (List.mem_append_left _ (List.mem_append_right _ (List.mem_append_right _ (List.mem_append_right _ (List.mem_append_right _ (List.mem_append_right _ (List.mem_append_right _ (List.mem_append_right _ (List.mem_append_right _ (List.mem_append_right _ (List.mem_append_right _ (List.mem_append_right _ (List.mem_append_right _ (List.mem_append_right _ (List.mem_append_right _ (List.mem_append_right _ (List.mem_append_right _ (List.mem_append_right _ (List.mem_append_right _ (List.mem_append_right _ (List.mem_append_right _ (List.mem_append_right _ (List.mem_append_right _ (List.mem_append_right _ (List.mem_append_right _ (List.mem_append_right _ (List.mem_append_right _ (List.mem_append_right _ (List.mem_append_right _ (List.mem_append_right _ (List.mem_append_right _ (List.mem_append_left _ (h))))))))))))))))))))))))))))))))))))))))))))
theorem mB32 : ∀ w ∈ wsL_law0_r32, w ∈ wsL_law := fun w h => List.mem_append_left _ (List.mem_append_left _ (List.mem_append_left _ (List.mem_append_left _ (List.mem_append_left _ (List.mem_append_left _ (List.mem_append_left _ (List.mem_append_left _ (List.mem_append_left _ (List.mem_append_left _ (List.mem_append_left _ (List.mem_append_left _ (List.mem_append_left _ (List.mem_append_right _ (List.mem_append_right _ (List.mem_append_right _ (List.mem_append_right _ (List.mem_append_right _ (List.mem_append_right _ (List.mem_append_right _ (List.mem_append_right _ (List.mem_append_right _ (List.mem_append_right _ (List.mem_append_right _ (List.mem_append_right _ (List.mem_append_right _ (List.mem_append_right _ (List.mem_append_right _ (List.mem_append_right _ (List.mem_append_right _ (List.mem_append_right _ (List.mem_append_right _ (List.mem_append_right _ (List.mem_append_right _ (List.mem_append_right _ (List.mem_append_right _ (List.mem_append_right _ (List.mem_append_right _ (List.mem_append_right _ (List.mem_append_right _ (List.mem_append_right _ (List.mem_append_right _ (List.mem_append_right _ (List.mem_append_right _ (List.mem_append_left _ (h)))))))))))))))))))))))))))))))))))))))))))))
theorem mB33 : ∀ w ∈ wsL_law0_r33, w ∈ wsL_law := fun w h => List.mem_append_left _ (List.mem_append_left _ (List.mem_append_left _ (List.mem_append_left _ (List.mem_append_left _ (List.mem_append_left _ (List.mem_append_left _ (List.mem_append_left _ (List.mem_append_left _ (List.mem_append_left _ (List.mem_append_left _ (List.mem_append_left _ (List.mem_append_left _ (List.mem_append_right _ (List.mem_append_right _ (List.mem_append_right _ (List.mem_append_right _ (List.mem_append_right _ (List.mem_append_right _ (List.mem_append_right _ (List.mem_append_right _ (List.mem_append_right _ (List.mem_append_right _ (List.mem_append_right _ (List.mem_append_right _ (List.mem_append_right _ (List.mem_append_right _ (List.mem_append_right _ (List.mem_append_right _ (List.mem_append_right _ (List.mem_append_right _ (List.mem_append_right _ (List.mem_append_right _ (List.mem_append_right _ (List.mem_append_right _ (List.mem_append_right _ (List.mem_append_right _ (List.mem_append_right _ (List.mem_append_right _ (List.mem_append_right _ (List.mem_append_right _ (List.mem_append_right _ (List.mem_append_right _ (List.mem_append_right _ (List.mem_append_right _ (List.mem_append_left _ (h))))))))))))))))))))))))))))))))))))))))))))))
theorem mB34 : ∀ w ∈ wsL_law0_r34, w ∈ wsL_law := fun w h => List.mem_append_left _ (List.mem_append_left _ (List.mem_append_left _ (List.mem_append_left _ (List.mem_append_left _ (List.mem_append_left _ (List.mem_append_left _ (List.mem_append_left _ (List.mem_append_left _ (List.mem_append_left _ (List.mem_append_left _ (List.mem_append_left _ (List.mem_append_left _ (List.mem_append_right _ (List.mem_append_right _ (List.mem_append_right _ (List.mem_append_right _ (List.mem_append_right _ (List.mem_append_right _ (List.mem_append_right _ (List.mem_append_right _ (List.mem_append_right _ (List.mem_append_right _ (List.mem_append_right _ (List.mem_append_right _ (List.mem_append_right _ (List.mem_append_right _ (List.mem_append_right _ (List.mem_append_right _ (List.mem_append_right _ (List.mem_append_right _ (List.mem_append_right _ (List.mem_append_right _ (List.mem_append_right _ (List.mem_append_right _ (List.mem_append_right _ (List.mem_append_right _ (List.mem_append_right _ (List.mem_append_right _ (List.mem_append_right _ (List.mem_append_right _ (List.mem_append_right _ (List.mem_append_right _ (List.mem_append_right _ (List.mem_append_right _ (List.mem_append_right _ (List.mem_append_left _ (h)))))))))))))))))))))))))))))))))))))))))))))))
theorem mB35 : ∀ w ∈ wsL_law0_r35, w ∈ wsL_law := fun w h => List.mem_append_left _ (List.mem_append_left _ (List.mem_append_left _ (List.mem_append_left _ (List.mem_append_left _ (List.mem_append_left _ (List.mem_append_left _ (List.mem_append_left _ (List.mem_append_left _ (List.mem_append_left _ (List.mem_append_left _ (List.mem_append_left _ (List.mem_append_left _ (List.mem_append_right _ (List.mem_append_right _ (List.mem_append_right _ (List.mem_append_right _ (List.mem_append_right _ (List.mem_append_right _ (List.mem_append_right _ (List.mem_append_right _ (List.mem_append_right _ (List.mem_append_right _ (List.mem_append_right _ (List.mem_append_right _ (List.mem_append_right _ (List.mem_append_right _ (List.mem_append_right _ (List.mem_append_right _ (List.mem_append_right _ (List.mem_append_right _ (List.mem_append_right _ (List.mem_append_right _ (List.mem_append_right _ (List.mem_append_right _ (List.mem_append_right _ (List.mem_append_right _ (List.mem_append_right _ (List.mem_append_right _ (List.mem_append_right _ (List.mem_append_right _ (List.mem_append_right _ (List.mem_append_right _ (List.mem_append_right _ (List.mem_append_right _ (List.mem_append_right _ (List.mem_append_right _ (List.mem_append_left _ (h))))))))))))))))))))))))))))))))))))))))))))))))
theorem mB36 : ∀ w ∈ wsL_law0_r36, w ∈ wsL_law := fun w h => List.mem_append_left _ (List.mem_append_left _ (List.mem_append_left _ (List.mem_append_left _ (List.mem_append_left _ (List.mem_append_left _ (List.mem_append_left _ (List.mem_append_left _ (List.mem_append_left _ (List.mem_append_left _ (List.mem_append_left _ (List.mem_append_left _ (List.mem_append_left _ (List.mem_append_right _ (List.mem_append_right _ (List.mem_append_right _ (List.mem_append_right _ (List.mem_append_right _ (List.mem_append_right _ (List.mem_append_right _ (List.mem_append_right _ (List.mem_append_right _ (List.mem_append_right _ (List.mem_append_right _ (List.mem_append_right _ (List.mem_append_right _ (List.mem_append_right _ (List.mem_append_right _ (List.mem_append_right _ (List.mem_append_right _ (List.mem_append_right _ (List.mem_append_right _ (List.mem_append_right _ (List.mem_append_right _ (List.mem_append_right _ (List.mem_append_right _ (List.mem_append_right _ (List.mem_append_right _ (List.mem_append_right _ (List.mem_append_right _ (List.mem_append_right _ (List.mem_append_right _ (List.mem_append_right _ (List.mem_append_right _ (List.mem_append_right _ (List.mem_append_right _ (List.mem_append_right _ (List.mem_append_right _ (List.mem_append_left _ (h)))))))))))))))))))))))))))))))))))))))))))))))))
theorem mB37 : ∀ w ∈ wsL_law0_r37, w ∈ wsL_law := fun w h => List.mem_append_left _ (List.mem_append_left _ (List.mem_append_left _ (List.mem_append_left _ (List.mem_append_left _ (List.mem_append_left _ (List.mem_append_left _ (List.mem_append_left _ (List.mem_append_left _ (List.mem_append_left _ (List.mem_append_left _ (List.mem_append_left _ (List.mem_append_left _ (List.mem_append_right _ (List.mem_append_right _ (List.mem_append_right _ (List.mem_append_right _ (List.mem_append_right _ (List.mem_append_right _ (List.mem_append_right _ (List.mem_append_right _ (List.mem_append_right _ (List.mem_append_right _ (List.mem_append_right _ (List.mem_append_right _ (List.mem_append_right _ (List.mem_append_right _ (List.mem_append_right _ (List.mem_append_right _ (List.mem_append_right _ (List.mem_append_right _ (List.mem_append_right _ (List.mem_append_right _ (List.mem_append_right _ (List.mem_append_right _ (List.mem_append_right _ (List.mem_append_right _ (List.mem_append_right _ (List.mem_append_right _ (List.mem_append_right _ (List.mem_append_right _ (List.mem_append_right _ (List.mem_append_right _ (List.mem_append_right _ (List.mem_append_right _ (List.mem_append_right _ (List.mem_append_right _ (List.mem_append_right _ (List.mem_append_right _ (List.mem_append_left _ (h))))))))))))))))))))))))))))))))))))))))))))))))))
theorem mB38 : ∀ w ∈ wsL_law0_r38, w ∈ wsL_law := fun w h => List.mem_append_left _ (List.mem_append_left _ (List.mem_append_left _ (List.mem_append_left _ (List.mem_append_left _ (List.mem_append_left _ (List.mem_append_left _ (List.mem_append_left _ (List.mem_append_left _ (List.mem_append_left _ (List.mem_append_left _ (List.mem_append_left _ (List.mem_append_left _ (List.mem_append_right _ (List.mem_append_right _ (List.mem_append_right _ (List.mem_append_right _ (List.mem_append_right _ (List.mem_append_right _ (List.mem_append_right _ (List.mem_append_right _ (List.mem_append_right _ (List.mem_append_right _ (List.mem_append_right _ (List.mem_append_right _ (List.mem_append_right _ (List.mem_append_right _ (List.mem_append_right _ (List.mem_append_right _ (List.mem_append_right _ (List.mem_append_right _ (List.mem_append_right _ (List.mem_append_right _ (List.mem_append_right _ (List.mem_append_right _ (List.mem_append_right _ (List.mem_append_right _ (List.mem_append_right _ (List.mem_append_right _ (List.mem_append_right _ (List.mem_append_right _ (List.mem_append_right _ (List.mem_append_right _ (List.mem_append_right _ (List.mem_append_right _ (List.mem_append_right _ (List.mem_append_right _ (List.mem_append_right _ (List.mem_append_right _ (List.mem_append_right _ (List.mem_append_left _ (h)))))))))))))))))))))))))))))))))))))))))))))))))))
theorem mB39 : ∀ w ∈ wsL_law0_r39, w ∈ wsL_law := fun w h => List.mem_append_left _ (List.mem_append_left _ (List.mem_append_left _ (List.mem_append_left _ (List.mem_append_left _ (List.mem_append_left _ (List.mem_append_left _ (List.mem_append_left _ (List.mem_append_left _ (List.mem_append_left _ (List.mem_append_left _ (List.mem_append_left _ (List.mem_append_left _ (List.mem_append_right _ (List.mem_append_right _ (List.mem_append_right _ (List.mem_append_right _ (List.mem_append_right _ (List.mem_append_right _ (List.mem_append_right _ (List.mem_append_right _ (List.mem_append_right _ (List.mem_append_right _ (List.mem_append_right _ (List.mem_append_right _ (List.mem_append_right _ (List.mem_append_right _ (List.mem_append_right _ (List.mem_append_right _ (List.mem_append_right _ (List.mem_append_right _ (List.mem_append_right _ (List.mem_append_right _ (List.mem_append_right _ (List.mem_append_right _ (List.mem_append_right _ (List.mem_append_right _ (List.mem_append_right _ (List.mem_append_right _ (List.mem_append_right _ (List.mem_append_right _ (List.mem_append_right _ (List.mem_append_right _ (List.mem_append_right _ (List.mem_append_right _ (List.mem_append_right _ (List.mem_append_right _ (List.mem_append_right _ (List.mem_append_right _ (List.mem_append_right _ (List.mem_append_right _ (List.mem_append_left _ (h))))))))))))))))))))))))))))))))))))))))))))))))))))
theorem mB40 : ∀ w ∈ wsL_law0_r40, w ∈ wsL_law := fun w h => List.mem_append_left _ (List.mem_append_left _ (List.mem_append_left _ (List.mem_append_left _ (List.mem_append_left _ (List.mem_append_left _ (List.mem_append_left _ (List.mem_append_left _ (List.mem_append_left _ (List.mem_append_left _ (List.mem_append_left _ (List.mem_append_left _ (List.mem_append_left _ (List.mem_append_right _ (List.mem_append_right _ (List.mem_append_right _ (List.mem_append_right _ (List.mem_append_right _ (List.mem_append_right _ (List.mem_append_right _ (List.mem_append_right _ (List.mem_append_right _ (List.mem_append_right _ (List.mem_append_right _ (List.mem_append_right _ (List.mem_append_right _ (List.mem_append_right _ (List.mem_append_right _ (List.mem_append_right _ (List.mem_append_right _ (List.mem_append_right _ (List.mem_append_right _ (List.mem_append_right _ (List.mem_append_right _ (List.mem_append_right _ (List.mem_append_right _ (List.mem_append_right _ (List.mem_append_right _ (List.mem_append_right _ (List.mem_append_right _ (List.mem_append_right _ (List.mem_append_right _ (List.mem_append_right _ (List.mem_append_right _ (List.mem_append_right _ (List.mem_append_right _ (List.mem_append_right _ (List.mem_append_right _ (List.mem_append_right _ (List.mem_append_right _ (List.mem_append_right _ (List.mem_append_right _ (List.mem_append_left _ (h)))))))))))))))))))))))))))))))))))))))))))))))))))))
theorem mB41 : ∀ w ∈ wsL_law0_r41, w ∈ wsL_law := fun w h => List.mem_append_left _ (List.mem_append_left _ (List.mem_append_left _ (List.mem_append_left _ (List.mem_append_left _ (List.mem_append_left _ (List.mem_append_left _ (List.mem_append_left _ (List.mem_append_left _ (List.mem_append_left _ (List.mem_append_left _ (List.mem_append_left _ (List.mem_append_left _ (List.mem_append_right _ (List.mem_append_right _ (List.mem_append_right _ (List.mem_append_right _ (List.mem_append_right _ (List.mem_append_right _ (List.mem_append_right _ (List.mem_append_right _ (List.mem_append_right _ (List.mem_append_right _ (List.mem_append_right _ (List.mem_append_right _ (List.mem_append_right _ (List.mem_append_right _ (List.mem_append_right _ (List.mem_append_right _ (List.mem_append_right _ (List.mem_append_right _ (List.mem_append_right _ (List.mem_append_right _ (List.mem_append_right _ (List.mem_append_right _ (List.mem_append_right _ (List.mem_append_right _ (List.mem_append_right _ (List.mem_append_right _ (List.mem_append_right _ (List.mem_append_right _ (List.mem_append_right _ (List.mem_append_right _ (List.mem_append_right _ (List.mem_append_right _ (List.mem_append_right _ (List.mem_append_right _ (List.mem_append_right _ (List.mem_append_right _ (List.mem_append_right _ (List.mem_append_right _ (List.mem_append_right _ (List.mem_append_right _ (List.mem_append_left _ (h))))))))))))))))))))))))))))))))))))))))))))))))))))))
theorem mB42 : ∀ w ∈ wsL_law0_r42, w ∈ wsL_law := fun w h => List.mem_append_left _ (List.mem_append_left _ (List.mem_append_left _ (List.mem_append_left _ (List.mem_append_left _ (List.mem_append_left _ (List.mem_append_left _ (List.mem_append_left _ (List.mem_append_left _ (List.mem_append_left _ (List.mem_append_left _ (List.mem_append_left _ (List.mem_append_left _ (List.mem_append_right _ (List.mem_append_right _ (List.mem_append_right _ (List.mem_append_right _ (List.mem_append_right _ (List.mem_append_right _ (List.mem_append_right _ (List.mem_append_right _ (List.mem_append_right _ (List.mem_append_right _ (List.mem_append_right _ (List.mem_append_right _ (List.mem_append_right _ (List.mem_append_right _ (List.mem_append_right _ (List.mem_append_right _ (List.mem_append_right _ (List.mem_append_right _ (List.mem_append_right _ (List.mem_append_right _ (List.mem_append_right _ (List.mem_append_right _ (List.mem_append_right _ (List.mem_append_right _ (List.mem_append_right _ (List.mem_append_right _ (List.mem_append_right _ (List.mem_append_right _ (List.mem_append_right _ (List.mem_append_right _ (List.mem_append_right _ (List.mem_append_right _ (List.mem_append_right _ (List.mem_append_right _ (List.mem_append_right _ (List.mem_append_right _ (List.mem_append_right _ (List.mem_append_right _ (List.mem_append_right _ (List.mem_append_right _ (List.mem_append_right _ (List.mem_append_left _ (h)))))))))))))))))))))))))))))))))))))))))))))))))))))))
theorem mB43 : ∀ w ∈ wsL_law0_r43, w ∈ wsL_law := fun w h => List.mem_append_left _ (List.mem_append_left _ (List.mem_append_left _ (List.mem_append_left _ (List.mem_append_left _ (List.mem_append_left _ (List.mem_append_left _ (List.mem_append_left _ (List.mem_append_left _ (List.mem_append_left _ (List.mem_append_left _ (List.mem_append_left _ (List.mem_append_left _ (List.mem_append_right _ (List.mem_append_right _ (List.mem_append_right _ (List.mem_append_right _ (List.mem_append_right _ (List.mem_append_right _ (List.mem_append_right _ (List.mem_append_right _ (List.mem_append_right _ (List.mem_append_right _ (List.mem_append_right _ (List.mem_append_right _ (List.mem_append_right _ (List.mem_append_right _ (List.mem_append_right _ (List.mem_append_right _ (List.mem_append_right _ (List.mem_append_right _ (List.mem_append_right _ (List.mem_append_right _ (List.mem_append_right _ (List.mem_append_right _ (List.mem_append_right _ (List.mem_append_right _ (List.mem_append_right _ (List.mem_append_right _ (List.mem_append_right _ (List.mem_append_right _ (List.mem_append_right _ (List.mem_append_right _ (List.mem_append_right _ (List.mem_append_right _ (List.mem_append_right _ (List.mem_append_right _ (List.mem_append_right _ (List.mem_append_right _ (List.mem_append_right _ (List.mem_append_right _ (List.mem_append_right _ (List.mem_append_right _ (List.mem_append_right _ (List.mem_append_right _ (List.mem_append_left _ (h))))))))))))))))))))))))))))))))))))))))))))))))))))))))
theorem mB44 : ∀ w ∈ wsL_law0_r44, w ∈ wsL_law := fun w h => List.mem_append_left _ (List.mem_append_left _ (List.mem_append_left _ (List.mem_append_left _ (List.mem_append_left _ (List.mem_append_left _ (List.mem_append_left _ (List.mem_append_left _ (List.mem_append_left _ (List.mem_append_left _ (List.mem_append_left _ (List.mem_append_left _ (List.mem_append_left _ (List.mem_append_right _ (List.mem_append_right _ (List.mem_append_right _ (List.mem_append_right _ (List.mem_append_right _ (List.mem_append_right _ (List.mem_append_right _ (List.mem_append_right _ (List.mem_append_right _ (List.mem_append_right _ (List.mem_append_right _ (List.mem_append_right _ (List.mem_append_right _ (List.mem_append_right _ (List.mem_append_right _ (List.mem_append_right _ (List.mem_append_right _ (List.mem_append_right _ (List.mem_append_right _ (List.mem_append_right _ (List.mem_append_right _ (List.mem_append_right _ (List.mem_append_right _ (List.mem_append_right _ (List.mem_append_right _ (List.mem_append_right _ (List.mem_append_right _ (List.mem_append_right _ (List.mem_append_right _ (List.mem_append_right _ (List.mem_append_right _ (List.mem_append_right _ (List.mem_append_right _ (List.mem_append_right _ (List.mem_append_right _ (List.mem_append_right _ (List.mem_append_right _ (List.mem_append_right _ (List.mem_append_right _ (List.mem_append_right _ (List.mem_append_right _ (List.mem_append_right _ (List.mem_append_right _ (List.mem_append_left _ (h)))))))))))))))))))))))))))))))))))))))))))))))))))))))))
theorem mB45 : ∀ w ∈ wsL_law0_r45, w ∈ wsL_law := fun w h => List.mem_append_left _ (List.mem_append_left _ (List.mem_append_left _ (List.mem_append_left _ (List.mem_append_left _ (List.mem_append_left _ (List.mem_append_left _ (List.mem_append_left _ (List.mem_append_left _ (List.mem_append_left _ (List.mem_append_left _ (List.mem_append_left _ (List.mem_append_left _ (List.mem_append_right _ (List.mem_append_right _ (List.mem_append_right _ (List.mem_append_right _ (List.mem_append_right _ (List.mem_append_right _ (List.mem_append_right _ (List.mem_append_right _ (List.mem_append_right _ (List.mem_append_right _ (List.mem_append_right _ (List.mem_append_right _ (List.mem_append_right _ (List.mem_append_right _ (List.mem_append_right _ (List.mem_append_right _ (List.mem_append_right _ (List.mem_append_right _ (List.mem_append_right _ (List.mem_append_right _ (List.mem_append_right _ (List.mem_append_right _ (List.mem_append_right _ (List.mem_append_right _ (List.mem_append_right _ (List.mem_append_right _ (List.mem_append_right _ (List.mem_append_right _ (List.mem_append_right _ (List.mem_append_right _ (List.mem_append_right _ (List.mem_append_right _ (List.mem_append_right _ (List.mem_append_right _ (List.mem_append_right _ (List.mem_append_right _ (List.mem_append_right _ (List.mem_append_right _ (List.mem_append_right _ (List.mem_append_right _ (List.mem_append_right _ (List.mem_append_right _ (List.mem_append_right _ (List.mem_append_right _ (List.mem_append_left _ (h))))))))))))))))))))))))))))))))))))))))))))))))))))))))))
theorem mB46 : ∀ w ∈ wsL_law0_r46, w ∈ wsL_law := fun w h => List.mem_append_left _ (List.mem_append_left _ (List.mem_append_left _ (List.mem_append_left _ (List.mem_append_left _ (List.mem_append_left _ (List.mem_append_left _ (List.mem_append_left _ (List.mem_append_left _ (List.mem_append_left _ (List.mem_append_left _ (List.mem_append_left _ (List.mem_append_left _ (List.mem_append_right _ (List.mem_append_right _ (List.mem_append_right _ (List.mem_append_right _ (List.mem_append_right _ (List.mem_append_right _ (List.mem_append_right _ (List.mem_append_right _ (List.mem_append_right _ (List.mem_append_right _ (List.mem_append_right _ (List.mem_append_right _ (List.mem_append_right _ (List.mem_append_right _ (List.mem_append_right _ (List.mem_append_right _ (List.mem_append_right _ (List.mem_append_right _ (List.mem_append_right _ (List.mem_append_right _ (List.mem_append_right _ (List.mem_append_right _ (List.mem_append_right _ (List.mem_append_right _ (List.mem_append_right _ (List.mem_append_right _ (List.mem_append_right _ (List.mem_append_right _ (List.mem_append_right _ (List.mem_append_right _ (List.mem_append_right _ (List.mem_append_right _ (List.mem_append_right _ (List.mem_append_right _ (List.mem_append_right _ (List.mem_append_right _ (List.mem_append_right _ (List.mem_append_right _ (List.mem_append_right _ (List.mem_append_right _ (List.mem_append_right _ (List.mem_append_right _ (List.mem_append_right _ (List.mem_append_right _ (List.mem_append_right _ (List.mem_append_left _ (h)))))))))))))))))))))))))))))))))))))))))))))))))))))))))))
theorem mB47 : ∀ w ∈ wsL_law0_r47, w ∈ wsL_law := fun w h => List.mem_append_left _ (List.mem_append_left _ (List.mem_append_left _ (List.mem_append_left _ (List.mem_append_left _ (List.mem_append_left _ (List.mem_append_left _ (List.mem_append_left _ (List.mem_append_left _ (List.mem_append_left _ (List.mem_append_left _ (List.mem_append_left _ (List.mem_append_left _ (List.mem_append_right _ (List.mem_append_right _ (List.mem_append_right _ (List.mem_append_right _ (List.mem_append_right _ (List.mem_append_right _ (List.mem_append_right _ (List.mem_append_right _ (List.mem_append_right _ (List.mem_append_right _ (List.mem_append_right _ (List.mem_append_right _ (List.mem_append_right _ (List.mem_append_right _ (List.mem_append_right _ (List.mem_append_right _ (List.mem_append_right _ (List.mem_append_right _ (List.mem_append_right _ (List.mem_append_right _ (List.mem_append_right _ (List.mem_append_right _ (List.mem_append_right _ (List.mem_append_right _ (List.mem_append_right _ (List.mem_append_right _ (List.mem_append_right _ (List.mem_append_right _ (List.mem_append_right _ (List.mem_append_right _ (List.mem_append_right _ (List.mem_append_right _ (List.mem_append_right _ (List.mem_append_right _ (List.mem_append_right _ (List.mem_append_right _ (List.mem_append_right _ (List.mem_append_right _ (List.mem_append_right _ (List.mem_append_right _ (List.mem_append_right _ (List.mem_append_right _ (List.mem_append_right _ (List.mem_append_right _ (List.mem_append_right _ (List.mem_append_right _ (List.mem_append_left _ (h))))))))))))))))))))))))))))))))))))))))))))))))))))))))))))
theorem mB48 : ∀ w ∈ wsL_law0_r48, w ∈ wsL_law := fun w h => List.mem_append_left _ (List.mem_append_left _ (List.mem_append_left _ (List.mem_append_left _ (List.mem_append_left _ (List.mem_append_left _ (List.mem_append_left _ (List.mem_append_left _ (List.mem_append_left _ (List.mem_append_left _ (List.mem_append_left _ (List.mem_append_left _ (List.mem_append_left _ (List.mem_append_right _ (List.mem_append_right _ (List.mem_append_right _ (List.mem_append_right _ (List.mem_append_right _ (List.mem_append_right _ (List.mem_append_right _ (List.mem_append_right _ (List.mem_append_right _ (List.mem_append_right _ (List.mem_append_right _ (List.mem_append_right _ (List.mem_append_right _ (List.mem_append_right _ (List.mem_append_right _ (List.mem_append_right _ (List.mem_append_right _ (List.mem_append_right _ (List.mem_append_right _ (List.mem_append_right _ (List.mem_append_right _ (List.mem_append_right _ (List.mem_append_right _ (List.mem_append_right _ (List.mem_append_right _ (List.mem_append_right _ (List.mem_append_right _ (List.mem_append_right _ (List.mem_append_right _ (List.mem_append_right _ (List.mem_append_right _ (List.mem_append_right _ (List.mem_append_right _ (List.mem_append_right _ (List.mem_append_right _ (List.mem_append_right _ (List.mem_append_right _ (List.mem_append_right _ (List.mem_append_right _ (List.mem_append_right _ (List.mem_append_right _ (List.mem_append_right _ (List.mem_append_right _ (List.mem_append_right _ (List.mem_append_right _ (List.mem_append_right _ (List.mem_append_right _ (List.mem_append_left _ (h)))))))))))))))))))))))))))))))))))))))))))))))))))))))))))))
theorem mB49 : ∀ w ∈ wsL_law0_r49, w ∈ wsL_law := fun w h => List.mem_append_left _ (List.mem_append_left _ (List.mem_append_left _ (List.mem_append_left _ (List.mem_append_left _ (List.mem_append_left _ (List.mem_append_left _ (List.mem_append_left _ (List.mem_append_left _ (List.mem_append_left _ (List.mem_append_left _ (List.mem_append_left _ (List.mem_append_left _ (List.mem_append_right _ (List.mem_append_right _ (List.mem_append_right _ (List.mem_append_right _ (List.mem_append_right _ (List.mem_append_right _ (List.mem_append_right _ (List.mem_append_right _ (List.mem_append_right _ (List.mem_append_right _ (List.mem_append_right _ (List.mem_append_right _ (List.mem_append_right _ (List.mem_append_right _ (List.mem_append_right _ (List.mem_append_right _ (List.mem_append_right _ (List.mem_append_right _ (List.mem_append_right _ (List.mem_append_right _ (List.mem_append_right _ (List.mem_append_right _ (List.mem_append_right _ (List.mem_append_right _ (List.mem_append_right _ (List.mem_append_right _ (List.mem_append_right _ (List.mem_append_right _ (List.mem_append_right _ (List.mem_append_right _ (List.mem_append_right _ (List.mem_append_right _ (List.mem_append_right _ (List.mem_append_right _ (List.mem_append_right _ (List.mem_append_right _ (List.mem_append_right _ (List.mem_append_right _ (List.mem_append_right _ (List.mem_append_right _ (List.mem_append_right _ (List.mem_append_right _ (List.mem_append_right _ (List.mem_append_right _ (List.mem_append_right _ (List.mem_append_right _ (List.mem_append_right _ (List.mem_append_right _ (List.mem_append_left _ (h))))))))))))))))))))))))))))))))))))))))))))))))))))))))))))))
theorem mB50 : ∀ w ∈ wsL_law0_r50, w ∈ wsL_law := fun w h => List.mem_append_left _ (List.mem_append_left _ (List.mem_append_left _ (List.mem_append_left _ (List.mem_append_left _ (List.mem_append_left _ (List.mem_append_left _ (List.mem_append_left _ (List.mem_append_left _ (List.mem_append_left _ (List.mem_append_left _ (List.mem_append_left _ (List.mem_append_left _ (List.mem_append_right _ (List.mem_append_right _ (List.mem_append_right _ (List.mem_append_right _ (List.mem_append_right _ (List.mem_append_right _ (List.mem_append_right _ (List.mem_append_right _ (List.mem_append_right _ (List.mem_append_right _ (List.mem_append_right _ (List.mem_append_right _ (List.mem_append_right _ (List.mem_append_right _ (List.mem_append_right _ (List.mem_append_right _ (List.mem_append_right _ (List.mem_append_right _ (List.mem_append_right _ (List.mem_append_right _ (List.mem_append_right _ (List.mem_append_right _ (List.mem_append_right _ (List.mem_append_right _ (List.mem_append_right _ (List.mem_append_right _ (List.mem_append_right _ (List.mem_append_right _ (List.mem_append_right _ (List.mem_append_right _ (List.mem_append_right _ (List.mem_append_right _ (List.mem_append_right _ (List.mem_append_right _ (List.mem_append_right _ (List.mem_append_right _ (List.mem_append_right _ (List.mem_append_right _ (List.mem_append_right _ (List.mem_append_right _ (List.mem_append_right _ (List.mem_append_right _ (List.mem_append_right _ (List.mem_append_right _ (List.mem_append_right _ (List.mem_append_right _ (List.mem_append_right _ (List.mem_append_right _ (List.mem_append_right _ (List.mem_append_left _ (h)))))))))))))))))))))))))))))))))))))))))))))))))))))))))))))))
theorem mB51 : ∀ w ∈ wsL_law0_r51, w ∈ wsL_law := fun w h => List.mem_append_left _ (List.mem_append_left _ (List.mem_append_left _ (List.mem_append_left _ (List.mem_append_left _ (List.mem_append_left _ (List.mem_append_left _ (List.mem_append_left _ (List.mem_append_left _ (List.mem_append_left _ (List.mem_append_left _ (List.mem_append_left _ (List.mem_append_left _ (List.mem_append_right _ (List.mem_append_right _ (List.mem_append_right _ (List.mem_append_right _ (List.mem_append_right _ (List.mem_append_right _ (List.mem_append_right _ (List.mem_append_right _ (List.mem_append_right _ (List.mem_append_right _ (List.mem_append_right _ (List.mem_append_right _ (List.mem_append_right _ (List.mem_append_right _ (List.mem_append_right _ (List.mem_append_right _ (List.mem_append_right _ (List.mem_append_right _ (List.mem_append_right _ (List.mem_append_right _ (List.mem_append_right _ (List.mem_append_right _ (List.mem_append_right _ (List.mem_append_right _ (List.mem_append_right _ (List.mem_append_right _ (List.mem_append_right _ (List.mem_append_right _ (List.mem_append_right _ (List.mem_append_right _ (List.mem_append_right _ (List.mem_append_right _ (List.mem_append_right _ (List.mem_append_right _ (List.mem_append_right _ (List.mem_append_right _ (List.mem_append_right _ (List.mem_append_right _ (List.mem_append_right _ (List.mem_append_right _ (List.mem_append_right _ (List.mem_append_right _ (List.mem_append_right _ (List.mem_append_right _ (List.mem_append_right _ (List.mem_append_right _ (List.mem_append_right _ (List.mem_append_right _ (List.mem_append_right _ (List.mem_append_right _ (List.mem_append_left _ (h))))))))))))))))))))))))))))))))))))))))))))))))))))))))))))))))
theorem mB52 : ∀ w ∈ wsL_law0_r52, w ∈ wsL_law := fun w h => List.mem_append_left _ (List.mem_append_left _ (List.mem_append_left _ (List.mem_append_left _ (List.mem_append_left _ (List.mem_append_left _ (List.mem_append_left _ (List.mem_append_left _ (List.mem_append_left _ (List.mem_append_left _ (List.mem_append_left _ (List.mem_append_left _ (List.mem_append_left _ (List.mem_append_right _ (List.mem_append_right _ (List.mem_append_right _ (List.mem_append_right _ (List.mem_append_right _ (List.mem_append_right _ (List.mem_append_right _ (List.mem_append_right _ (List.mem_append_right _ (List.mem_append_right _ (List.mem_append_right _ (List.mem_append_right _ (List.mem_append_right _ (List.mem_append_right _ (List.mem_append_right _ (List.mem_append_right _ (List.mem_append_right _ (List.mem_append_right _ (List.mem_append_right _ (List.mem_append_right _ (List.mem_append_right _ (List.mem_append_right _ (List.mem_append_right _ (List.mem_append_right _ (List.mem_append_right _ (List.mem_append_right _ (List.mem_append_right _ (List.mem_append_right _ (List.mem_append_right _ (List.mem_append_right _ (List.mem_append_right _ (List.mem_append_right _ (List.mem_append_right _ (List.mem_append_right _ (List.mem_append_right _ (List.mem_append_right _ (List.mem_append_right _ (List.mem_append_right _ (List.mem_append_right _ (List.mem_append_right _ (List.mem_append_right _ (List.mem_append_right _ (List.mem_append_right _ (List.mem_append_right _ (List.mem_append_right _ (List.mem_append_right _ (List.mem_append_right _ (List.mem_append_right _ (List.mem_append_right _ (List.mem_append_right _ (List.mem_append_right _ (List.mem_append_left _ (h)))))))))))))))))))))))))))))))))))))))))))))))))))))))))))))))))
theorem mB53 : ∀ w ∈ wsL_law0_r53, w ∈ wsL_law := fun w h => List.mem_append_left _ (List.mem_append_left _ (List.mem_append_left _ (List.mem_append_left _ (List.mem_append_left _ (List.mem_append_left _ (List.mem_append_left _ (List.mem_append_left _ (List.mem_append_left _ (List.mem_append_left _ (List.mem_append_left _ (List.mem_append_left _ (List.mem_append_left _ (List.mem_append_right _ (List.mem_append_right _ (List.mem_append_right _ (List.mem_append_right _ (List.mem_append_right _ (List.mem_append_right _ (List.mem_append_right _ (List.mem_append_right _ (List.mem_append_right _ (List.mem_append_right _ (List.mem_append_right _ (List.mem_append_right _ (List.mem_append_right _ (List.mem_append_right _ (List.mem_append_right _ (List.mem_append_right _ (List.mem_append_right _ (List.mem_append_right _ (List.mem_append_right _ (List.mem_append_right _ (List.mem_append_right _ (List.mem_append_right _ (List.mem_append_right _ (List.mem_append_right _ (List.mem_append_right _ (List.mem_append_right _ (List.mem_append_right _ (List.mem_append_right _ (List.mem_append_right _ (List.mem_append_right _ (List.mem_append_right _ (List.mem_append_right _ (List.mem_append_right _ (List.mem_append_right _ (List.mem_append_right _ (List.mem_append_right _ (List.mem_append_right _ (List.mem_append_right _ (List.mem_append_right _ (List.mem_append_right _ (List.mem_append_right _ (List.mem_append_right _ (List.mem_append_right _ (List.mem_append_right _ (List.mem_append_right _ (List.mem_append_right _ (List.mem_append_right _ (List.mem_append_right _ (List.mem_append_right _ (List.mem_append_right _ (List.mem_append_right _ (List.mem_append_right _ (List.mem_append_left _ (h))))))))))))))))))))))))))))))))))))))))))))))))))))))))))))))))))
theorem mB54 : ∀ w ∈ wsL_law0_r54, w ∈ wsL_law := fun w h => List.mem_append_left _ (List.mem_append_left _ (List.mem_append_left _ (List.mem_append_left _ (List.mem_append_left _ (List.mem_append_left _ (List.mem_append_left _ (List.mem_append_left _ (List.mem_append_left _ (List.mem_append_left _ (List.mem_append_left _ (List.mem_append_left _ (List.mem_append_left _ (List.mem_append_right _ (List.mem_append_right _ (List.mem_append_right _ (List.mem_append_right _ (List.mem_append_right _ (List.mem_append_right _ (List.mem_append_right _ (List.mem_append_right _ (List.mem_append_right _ (List.mem_append_right _ (List.mem_append_right _ (List.mem_append_right _ (List.mem_append_right _ (List.mem_append_right _ (List.mem_append_right _ (List.mem_append_right _ (List.mem_append_right _ (List.mem_append_right _ (List.mem_append_right _ (List.mem_append_right _ (List.mem_append_right _ (List.mem_append_right _ (List.mem_append_right _ (List.mem_append_right _ (List.mem_append_right _ (List.mem_append_right _ (List.mem_append_right _ (List.mem_append_right _ (List.mem_append_right _ (List.mem_append_right _ (List.mem_append_right _ (List.mem_append_right _ (List.mem_append_right _ (List.mem_append_right _ (List.mem_append_right _ (List.mem_append_right _ (List.mem_append_right _ (List.mem_append_right _ (List.mem_append_right _ (List.mem_append_right _ (List.mem_append_right _ (List.mem_append_right _ (List.mem_append_right _ (List.mem_append_right _ (List.mem_append_right _ (List.mem_append_right _ (List.mem_append_right _ (List.mem_append_right _ (List.mem_append_right _ (List.mem_append_right _ (List.mem_append_right _ (List.mem_append_right _ (List.mem_append_right _ (List.mem_append_left _ (h)))))))))))))))))))))))))))))))))))))))))))))))))))))))))))))))))))
theorem mB55 : ∀ w ∈ wsL_law0_r55, w ∈ wsL_law := fun w h => List.mem_append_left _ (List.mem_append_left _ (List.mem_append_left _ (List.mem_append_left _ (List.mem_append_left _ (List.mem_append_left _ (List.mem_append_left _ (List.mem_append_left _ (List.mem_append_left _ (List.mem_append_left _ (List.mem_append_left _ (List.mem_append_left _ (List.mem_append_left _ (List.mem_append_right _ (List.mem_append_right _ (List.mem_append_right _ (List.mem_append_right _ (List.mem_append_right _ (List.mem_append_right _ (List.mem_append_right _ (List.mem_append_right _ (List.mem_append_right _ (List.mem_append_right _ (List.mem_append_right _ (List.mem_append_right _ (List.mem_append_right _ (List.mem_append_right _ (List.mem_append_right _ (List.mem_append_right _ (List.mem_append_right _ (List.mem_append_right _ (List.mem_append_right _ (List.mem_append_right _ (List.mem_append_right _ (List.mem_append_right _ (List.mem_append_right _ (List.mem_append_right _ (List.mem_append_right _ (List.mem_append_right _ (List.mem_append_right _ (List.mem_append_right _ (List.mem_append_right _ (List.mem_append_right _ (List.mem_append_right _ (List.mem_append_right _ (List.mem_append_right _ (List.mem_append_right _ (List.mem_append_right _ (List.mem_append_right _ (List.mem_append_right _ (List.mem_append_right _ (List.mem_append_right _ (List.mem_append_right _ (List.mem_append_right _ (List.mem_append_right _ (List.mem_append_right _ (List.mem_append_right _ (List.mem_append_right _ (List.mem_append_right _ (List.mem_append_right _ (List.mem_append_right _ (List.mem_append_right _ (List.mem_append_right _ (List.mem_append_right _ (List.mem_append_right _ (List.mem_append_right _ (List.mem_append_right _ (List.mem_append_left _ (h))))))))))))))))))))))))))))))))))))))))))))))))))))))))))))))))))))
theorem mB56 : ∀ w ∈ wsL_law0_r56, w ∈ wsL_law := fun w h => List.mem_append_left _ (List.mem_append_left _ (List.mem_append_left _ (List.mem_append_left _ (List.mem_append_left _ (List.mem_append_left _ (List.mem_append_left _ (List.mem_append_left _ (List.mem_append_left _ (List.mem_append_left _ (List.mem_append_left _ (List.mem_append_left _ (List.mem_append_left _ (List.mem_append_right _ (List.mem_append_right _ (List.mem_append_right _ (List.mem_append_right _ (List.mem_append_right _ (List.mem_append_right _ (List.mem_append_right _ (List.mem_append_right _ (List.mem_append_right _ (List.mem_append_right _ (List.mem_append_right _ (List.mem_append_right _ (List.mem_append_right _ (List.mem_append_right _ (List.mem_append_right _ (List.mem_append_right _ (List.mem_append_right _ (List.mem_append_right _ (List.mem_append_right _ (List.mem_append_right _ (List.mem_append_right _ (List.mem_append_right _ (List.mem_append_right _ (List.mem_append_right _ (List.mem_append_right _ (List.mem_append_right _ (List.mem_append_right _ (List.mem_append_right _ (List.mem_append_right _ (List.mem_append_right _ (List.mem_append_right _ (List.mem_append_right _ (List.mem_append_right _ (List.mem_append_right _ (List.mem_append_right _ (List.mem_append_right _ (List.mem_append_right _ (List.mem_append_right _ (List.mem_append_right _ (List.mem_append_right _ (List.mem_append_right _ (List.mem_append_right _ (List.mem_append_right _ (List.mem_append_right _ (List.mem_append_right _ (List.mem_append_right _ (List.mem_append_right _ (List.mem_append_right _ (List.mem_append_right _ (List.mem_append_right _ (List.mem_append_right _ (List.mem_append_right _ (List.mem_append_right _ (List.mem_append_right _ (List.mem_append_right _ (List.mem_append_left _ (h)))))))))))))))))))))))))))))))))))))))))))))))))))))))))))))))))))))
theorem mB57 : ∀ w ∈ wsL_law0_r57, w ∈ wsL_law := fun w h => List.mem_append_left _ (List.mem_append_left _ (List.mem_append_left _ (List.mem_append_left _ (List.mem_append_left _ (List.mem_append_left _ (List.mem_append_left _ (List.mem_append_left _ (List.mem_append_left _ (List.mem_append_left _ (List.mem_append_left _ (List.mem_append_left _ (List.mem_append_left _ (List.mem_append_right _ (List.mem_append_right _ (List.mem_append_right _ (List.mem_append_right _ (List.mem_append_right _ (List.mem_append_right _ (List.mem_append_right _ (List.mem_append_right _ (List.mem_append_right _ (List.mem_append_right _ (List.mem_append_right _ (List.mem_append_right _ (List.mem_append_right _ (List.mem_append_right _ (List.mem_append_right _ (List.mem_append_right _ (List.mem_append_right _ (List.mem_append_right _ (List.mem_append_right _ (List.mem_append_right _ (List.mem_append_right _ (List.mem_append_right _ (List.mem_append_right _ (List.mem_append_right _ (List.mem_append_right _ (List.mem_append_right _ (List.mem_append_right _ (List.mem_append_right _ (List.mem_append_right _ (List.mem_append_right _ (List.mem_append_right _ (List.mem_append_right _ (List.mem_append_right _ (List.mem_append_right _ (List.mem_append_right _ (List.mem_append_right _ (List.mem_append_right _ (List.mem_append_right _ (List.mem_append_right _ (List.mem_append_right _ (List.mem_append_right _ (List.mem_append_right _ (List.mem_append_right _ (List.mem_append_right _ (List.mem_append_right _ (List.mem_append_right _ (List.mem_append_right _ (List.mem_append_right _ (List.mem_append_right _ (List.mem_append_right _ (List.mem_append_right _ (List.mem_append_right _ (List.mem_append_right _ (List.mem_append_right _ (List.mem_append_right _ (List.mem_append_right _ (List.mem_append_left _ (h))))))))))))))))))))))))))))))))))))))))))))))))))))))))))))))))))))))
theorem mB58 : ∀ w ∈ wsL_law0_r58, w ∈ wsL_law := fun w h => List.mem_append_left _ (List.mem_append_left _ (List.mem_append_left _ (List.mem_append_left _ (List.mem_append_left _ (List.mem_append_left _ (List.mem_append_left _ (List.mem_append_left _ (List.mem_append_left _ (List.mem_append_left _ (List.mem_append_left _ (List.mem_append_left _ (List.mem_append_left _ (List.mem_append_right _ (List.mem_append_right _ (List.mem_append_right _ (List.mem_append_right _ (List.mem_append_right _ (List.mem_append_right _ (List.mem_append_right _ (List.mem_append_right _ (List.mem_append_right _ (List.mem_append_right _ (List.mem_append_right _ (List.mem_append_right _ (List.mem_append_right _ (List.mem_append_right _ (List.mem_append_right _ (List.mem_append_right _ (List.mem_append_right _ (List.mem_append_right _ (List.mem_append_right _ (List.mem_append_right _ (List.mem_append_right _ (List.mem_append_right _ (List.mem_append_right _ (List.mem_append_right _ (List.mem_append_right _ (List.mem_append_right _ (List.mem_append_right _ (List.mem_append_right _ (List.mem_append_right _ (List.mem_append_right _ (List.mem_append_right _ (List.mem_append_right _ (List.mem_append_right _ (List.mem_append_right _ (List.mem_append_right _ (List.mem_append_right _ (List.mem_append_right _ (List.mem_append_right _ (List.mem_append_right _ (List.mem_append_right _ (List.mem_append_right _ (List.mem_append_right _ (List.mem_append_right _ (List.mem_append_right _ (List.mem_append_right _ (List.mem_append_right _ (List.mem_append_right _ (List.mem_append_right _ (List.mem_append_right _ (List.mem_append_right _ (List.mem_append_right _ (List.mem_append_right _ (List.mem_append_right _ (List.mem_append_right _ (List.mem_append_right _ (List.mem_append_right _ (List.mem_append_right _ (List.mem_append_left _ (h)))))))))))))))))))))))))))))))))))))))))))))))))))))))))))))))))))))))
theorem mB59 : ∀ w ∈ wsL_law0_r59, w ∈ wsL_law := fun w h => List.mem_append_left _ (List.mem_append_left _ (List.mem_append_left _ (List.mem_append_left _ (List.mem_append_left _ (List.mem_append_left _ (List.mem_append_left _ (List.mem_append_left _ (List.mem_append_left _ (List.mem_append_left _ (List.mem_append_left _ (List.mem_append_left _ (List.mem_append_left _ (List.mem_append_right _ (List.mem_append_right _ (List.mem_append_right _ (List.mem_append_right _ (List.mem_append_right _ (List.mem_append_right _ (List.mem_append_right _ (List.mem_append_right _ (List.mem_append_right _ (List.mem_append_right _ (List.mem_append_right _ (List.mem_append_right _ (List.mem_append_right _ (List.mem_append_right _ (List.mem_append_right _ (List.mem_append_right _ (List.mem_append_right _ (List.mem_append_right _ (List.mem_append_right _ (List.mem_append_right _ (List.mem_append_right _ (List.mem_append_right _ (List.mem_append_right _ (List.mem_append_right _ (List.mem_append_right _ (List.mem_append_right _ (List.mem_append_right _ (List.mem_append_right _ (List.mem_append_right _ (List.mem_append_right _ (List.mem_append_right _ (List.mem_append_right _ (List.mem_append_right _ (List.mem_append_right _ (List.mem_append_right _ (List.mem_append_right _ (List.mem_append_right _ (List.mem_append_right _ (List.mem_append_right _ (List.mem_append_right _ (List.mem_append_right _ (List.mem_append_right _ (List.mem_append_right _ (List.mem_append_right _ (List.mem_append_right _ (List.mem_append_right _ (List.mem_append_right _ (List.mem_append_right _ (List.mem_append_right _ (List.mem_append_right _ (List.mem_append_right _ (List.mem_append_right _ (List.mem_append_right _ (List.mem_append_right _ (List.mem_append_right _ (List.mem_append_right _ (List.mem_append_right _ (List.mem_append_right _ (List.mem_append_left _ (h))))))))))))))))))))))))))))))))))))))))))))))))))))))))))))))))))))))))
theorem mB60 : ∀ w ∈ wsL_law0_r60, w ∈ wsL_law := fun w h => List.mem_append_left _ (List.mem_append_left _ (List.mem_append_left _ (List.mem_append_left _ (List.mem_append_left _ (List.mem_append_left _ (List.mem_append_left _ (List.mem_append_left _ (List.mem_append_left _ (List.mem_append_left _ (List.mem_append_left _ (List.mem_append_left _ (List.mem_append_left _ (List.mem_append_right _ (List.mem_append_right _ (List.mem_append_right _ (List.mem_append_right _ (List.mem_append_right _ (List.mem_append_right _ (List.mem_append_right _ (List.mem_append_right _ (List.mem_append_right _ (List.mem_append_right _ (List.mem_append_right _ (List.mem_append_right _ (List.mem_append_right _ (List.mem_append_right _ (List.mem_append_right _ (List.mem_append_right _ (List.mem_append_right _ (List.mem_append_right _ (List.mem_append_right _ (List.mem_append_right _ (List.mem_append_right _ (List.mem_append_right _ (List.mem_append_right _ (List.mem_append_right _ (List.mem_append_right _ (List.mem_append_right _ (List.mem_append_right _ (List.mem_append_right _ (List.mem_append_right _ (List.mem_append_right _ (List.mem_append_right _ (List.mem_append_right _ (List.mem_append_right _ (List.mem_append_right _ (List.mem_append_right _ (List.mem_append_right _ (List.mem_append_right _ (List.mem_append_right _ (List.mem_append_right _ (List.mem_append_right _ (List.mem_append_right _ (List.mem_append_right _ (List.mem_append_right _ (List.mem_append_right _ (List.mem_append_right _ (List.mem_append_right _ (List.mem_append_right _ (List.mem_append_right _ (List.mem_append_right _ (List.mem_append_right _ (List.mem_append_right _ (List.mem_append_right _ (List.mem_append_right _ (List.mem_append_right _ (List.mem_append_right _ (List.mem_append_right _ (List.mem_append_right _ (List.mem_append_right _ (List.mem_append_right _ (List.mem_append_left _ (h)))))))))))))))))))))))))))))))))))))))))))))))))))))))))))))))))))))))))
theorem mB61 : ∀ w ∈ wsL_law0_r61, w ∈ wsL_law := fun w h => List.mem_append_left _ (List.mem_append_left _ (List.mem_append_left _ (List.mem_append_left _ (List.mem_append_left _ (List.mem_append_left _ (List.mem_append_left _ (List.mem_append_left _ (List.mem_append_left _ (List.mem_append_left _ (List.mem_append_left _ (List.mem_append_left _ (List.mem_append_left _ (List.mem_append_right _ (List.mem_append_right _ (List.mem_append_right _ (List.mem_append_right _ (List.mem_append_right _ (List.mem_append_right _ (List.mem_append_right _ (List.mem_append_right _ (List.mem_append_right _ (List.mem_append_right _ (List.mem_append_right _ (List.mem_append_right _ (List.mem_append_right _ (List.mem_append_right _ (List.mem_append_right _ (List.mem_append_right _ (List.mem_append_right _ (List.mem_append_right _ (List.mem_append_right _ (List.mem_append_right _ (List.mem_append_right _ (List.mem_append_right _ (List.mem_append_right _ (List.mem_append_right _ (List.mem_append_right _ (List.mem_append_right _ (List.mem_append_right _ (List.mem_append_right _ (List.mem_append_right _ (List.mem_append_right _ (List.mem_append_right _ (List.mem_append_right _ (List.mem_append_right _ (List.mem_append_right _ (List.mem_append_right _ (List.mem_append_right _ (List.mem_append_right _ (List.mem_append_right _ (List.mem_append_right _ (List.mem_append_right _ (List.mem_append_right _ (List.mem_append_right _ (List.mem_append_right _ (List.mem_append_right _ (List.mem_append_right _ (List.mem_append_right _ (List.mem_append_right _ (List.mem_append_right _ (List.mem_append_right _ (List.mem_append_right _ (List.mem_append_right _ (List.mem_append_right _ (List.mem_append_right _ (List.mem_append_right _ (List.mem_append_right _ (List.mem_append_right _ (List.mem_append_right _ (List.mem_append_right _ (List.mem_append_right _ (List.mem_append_right _ (List.mem_append_left _ (h))))))))))))))))))))))))))))))))))))))))))))))))))))))))))))))))))))))))))
theorem mB62 : ∀ w ∈ wsL_law0_r62, w ∈ wsL_law := fun w h => List.mem_append_left _ (List.mem_append_left _ (List.mem_append_left _ (List.mem_append_left _ (List.mem_append_left _ (List.mem_append_left _ (List.mem_append_left _ (List.mem_append_left _ (List.mem_append_left _ (List.mem_append_left _ (List.mem_append_left _ (List.mem_append_left _ (List.mem_append_left _ (List.mem_append_right _ (List.mem_append_right _ (List.mem_append_right _ (List.mem_append_right _ (List.mem_append_right _ (List.mem_append_right _ (List.mem_append_right _ (List.mem_append_right _ (List.mem_append_right _ (List.mem_append_right _ (List.mem_append_right _ (List.mem_append_right _ (List.mem_append_right _ (List.mem_append_right _ (List.mem_append_right _ (List.mem_append_right _ (List.mem_append_right _ (List.mem_append_right _ (List.mem_append_right _ (List.mem_append_right _ (List.mem_append_right _ (List.mem_append_right _ (List.mem_append_right _ (List.mem_append_right _ (List.mem_append_right _ (List.mem_append_right _ (List.mem_append_right _ (List.mem_append_right _ (List.mem_append_right _ (List.mem_append_right _ (List.mem_append_right _ (List.mem_append_right _ (List.mem_append_right _ (List.mem_append_right _ (List.mem_append_right _ (List.mem_append_right _ (List.mem_append_right _ (List.mem_append_right _ (List.mem_append_right _ (List.mem_append_right _ (List.mem_append_right _ (List.mem_append_right _ (List.mem_append_right _ (List.mem_append_right _ (List.mem_append_right _ (List.mem_append_right _ (List.mem_append_right _ (List.mem_append_right _ (List.mem_append_right _ (List.mem_append_right _ (List.mem_append_right _ (List.mem_append_right _ (List.mem_append_right _ (List.mem_append_right _ (List.mem_append_right _ (List.mem_append_right _ (List.mem_append_right _ (List.mem_append_right _ (List.mem_append_right _ (List.mem_append_right _ (List.mem_append_right _ (List.mem_append_left _ (h)))))))))))))))))))))))))))))))))))))))))))))))))))))))))))))))))))))))))))
theorem mB63 : ∀ w ∈ wsL_law0_r63, w ∈ wsL_law := fun w h => List.mem_append_left _ (List.mem_append_left _ (List.mem_append_left _ (List.mem_append_left _ (List.mem_append_left _ (List.mem_append_left _ (List.mem_append_left _ (List.mem_append_left _ (List.mem_append_left _ (List.mem_append_left _ (List.mem_append_left _ (List.mem_append_left _ (List.mem_append_left _ (List.mem_append_right _ (List.mem_append_right _ (List.mem_append_right _ (List.mem_append_right _ (List.mem_append_right _ (List.mem_append_right _ (List.mem_append_right _ (List.mem_append_right _ (List.mem_append_right _ (List.mem_append_right _ (List.mem_append_right _ (List.mem_append_right _ (List.mem_append_right _ (List.mem_append_right _ (List.mem_append_right _ (List.mem_append_right _ (List.mem_append_right _ (List.mem_append_right _ (List.mem_append_right _ (List.mem_append_right _ (List.mem_append_right _ (List.mem_append_right _ (List.mem_append_right _ (List.mem_append_right _ (List.mem_append_right _ (List.mem_append_right _ (List.mem_append_right _ (List.mem_append_right _ (List.mem_append_right _ (List.mem_append_right _ (List.mem_append_right _ (List.mem_append_right _ (List.mem_append_right _ (List.mem_append_right _ (List.mem_append_right _ (List.mem_append_right _ (List.mem_append_right _ (List.mem_append_right _ (List.mem_append_right _ (List.mem_append_right _ (List.mem_append_right _ (List.mem_append_right _ (List.mem_append_right _ (List.mem_append_right _ (List.mem_append_right _ (List.mem_append_right _ (List.mem_append_right _ (List.mem_append_right _ (List.mem_append_right _ (List.mem_append_right _ (List.mem_append_right _ (List.mem_append_right _ (List.mem_append_right _ (List.mem_append_right _ (List.mem_append_right _ (List.mem_append_right _ (List.mem_append_right _ (List.mem_append_right _ (List.mem_append_right _ (List.mem_append_right _ (List.mem_append_right _ (List.mem_append_right _ (List.mem_append_left _ (h))))))))))))))))))))))))))))))))))))))))))))))))))))))))))))))))))))))))))))
theorem mB64 : ∀ w ∈ wsL_law0_r64, w ∈ wsL_law := fun w h => List.mem_append_left _ (List.mem_append_left _ (List.mem_append_left _ (List.mem_append_left _ (List.mem_append_left _ (List.mem_append_left _ (List.mem_append_left _ (List.mem_append_left _ (List.mem_append_left _ (List.mem_append_left _ (List.mem_append_left _ (List.mem_append_left _ (List.mem_append_left _ (List.mem_append_right _ (List.mem_append_right _ (List.mem_append_right _ (List.mem_append_right _ (List.mem_append_right _ (List.mem_append_right _ (List.mem_append_right _ (List.mem_append_right _ (List.mem_append_right _ (List.mem_append_right _ (List.mem_append_right _ (List.mem_append_right _ (List.mem_append_right _ (List.mem_append_right _ (List.mem_append_right _ (List.mem_append_right _ (List.mem_append_right _ (List.mem_append_right _ (List.mem_append_right _ (List.mem_append_right _ (List.mem_append_right _ (List.mem_append_right _ (List.mem_append_right _ (List.mem_append_right _ (List.mem_append_right _ (List.mem_append_right _ (List.mem_append_right _ (List.mem_append_right _ (List.mem_append_right _ (List.mem_append_right _ (List.mem_append_right _ (List.mem_append_right _ (List.mem_append_right _ (List.mem_append_right _ (List.mem_append_right _ (List.mem_append_right _ (List.mem_append_right _ (List.mem_append_right _ (List.mem_append_right _ (List.mem_append_right _ (List.mem_append_right _ (List.mem_append_right _ (List.mem_append_right _ (List.mem_append_right _ (List.mem_append_right _ (List.mem_append_right _ (List.mem_append_right _ (List.mem_append_right _ (List.mem_append_right _ (List.mem_append_right _ (List.mem_append_right _ (List.mem_append_right _ (List.mem_append_right _ (List.mem_append_right _ (List.mem_append_right _ (List.mem_append_right _ (List.mem_append_right _ (List.mem_append_right _ (List.mem_append_right _ (List.mem_append_right _ (List.mem_append_right _ (List.mem_append_right _ (List.mem_append_right _ (List.mem_append_left _ (h)))))))))))))))))))))))))))))))))))))))))))))))))))))))))))))))))))))))))))))
theorem mB65 : ∀ w ∈ wsL_law0_r65, w ∈ wsL_law := fun w h => List.mem_append_left _ (List.mem_append_left _ (List.mem_append_left _ (List.mem_append_left _ (List.mem_append_left _ (List.mem_append_left _ (List.mem_append_left _ (List.mem_append_left _ (List.mem_append_left _ (List.mem_append_left _ (List.mem_append_left _ (List.mem_append_left _ (List.mem_append_left _ (List.mem_append_right _ (List.mem_append_right _ (List.mem_append_right _ (List.mem_append_right _ (List.mem_append_right _ (List.mem_append_right _ (List.mem_append_right _ (List.mem_append_right _ (List.mem_append_right _ (List.mem_append_right _ (List.mem_append_right _ (List.mem_append_right _ (List.mem_append_right _ (List.mem_append_right _ (List.mem_append_right _ (List.mem_append_right _ (List.mem_append_right _ (List.mem_append_right _ (List.mem_append_right _ (List.mem_append_right _ (List.mem_append_right _ (List.mem_append_right _ (List.mem_append_right _ (List.mem_append_right _ (List.mem_append_right _ (List.mem_append_right _ (List.mem_append_right _ (List.mem_append_right _ (List.mem_append_right _ (List.mem_append_right _ (List.mem_append_right _ (List.mem_append_right _ (List.mem_append_right _ (List.mem_append_right _ (List.mem_append_right _ (List.mem_append_right _ (List.mem_append_right _ (List.mem_append_right _ (List.mem_append_right _ (List.mem_append_right _ (List.mem_append_right _ (List.mem_append_right _ (List.mem_append_right _ (List.mem_append_right _ (List.mem_append_right _ (List.mem_append_right _ (List.mem_append_right _ (List.mem_append_right _ (List.mem_append_right _ (List.mem_append_right _ (List.mem_append_right _ (List.mem_append_right _ (List.mem_append_right _ (List.mem_append_right _ (List.mem_append_right _ (List.mem_append_right _ (List.mem_append_right _ (List.mem_append_right _ (List.mem_append_right _ (List.mem_append_right _ (List.mem_append_right _ (List.mem_append_right _ (List.mem_append_right _ (List.mem_append_right _ (List.mem_append_left _ (h))))))))))))))))))))))))))))))))))))))))))))))))))))))))))))))))))))))))))))))
theorem mB66 : ∀ w ∈ wsL_law0_r66, w ∈ wsL_law := fun w h => List.mem_append_left _ (List.mem_append_left _ (List.mem_append_left _ (List.mem_append_left _ (List.mem_append_left _ (List.mem_append_left _ (List.mem_append_left _ (List.mem_append_left _ (List.mem_append_left _ (List.mem_append_left _ (List.mem_append_left _ (List.mem_append_left _ (List.mem_append_left _ (List.mem_append_right _ (List.mem_append_right _ (List.mem_append_right _ (List.mem_append_right _ (List.mem_append_right _ (List.mem_append_right _ (List.mem_append_right _ (List.mem_append_right _ (List.mem_append_right _ (List.mem_append_right _ (List.mem_append_right _ (List.mem_append_right _ (List.mem_append_right _ (List.mem_append_right _ (List.mem_append_right _ (List.mem_append_right _ (List.mem_append_right _ (List.mem_append_right _ (List.mem_append_right _ (List.mem_append_right _ (List.mem_append_right _ (List.mem_append_right _ (List.mem_append_right _ (List.mem_append_right _ (List.mem_append_right _ (List.mem_append_right _ (List.mem_append_right _ (List.mem_append_right _ (List.mem_append_right _ (List.mem_append_right _ (List.mem_append_right _ (List.mem_append_right _ (List.mem_append_right _ (List.mem_append_right _ (List.mem_append_right _ (List.mem_append_right _ (List.mem_append_right _ (List.mem_append_right _ (List.mem_append_right _ (List.mem_append_right _ (List.mem_append_right _ (List.mem_append_right _ (List.mem_append_right _ (List.mem_append_right _ (List.mem_append_right _ (List.mem_append_right _ (List.mem_append_right _ (List.mem_append_right _ (List.mem_append_right _ (List.mem_append_right _ (List.mem_append_right _ (List.mem_append_right _ (List.mem_append_right _ (List.mem_append_right _ (List.mem_append_right _ (List.mem_append_right _ (List.mem_append_right _ (List.mem_append_right _ (List.mem_append_right _ (List.mem_append_right _ (List.mem_append_right _ (List.mem_append_right _ (List.mem_append_right _ (List.mem_append_right _ (List.mem_append_right _ (List.mem_append_left _ (h)))))))))))))))))))))))))))))))))))))))))))))))))))))))))))))))))))))))))))))))
theorem mB67 : ∀ w ∈ wsL_law0_r67, w ∈ wsL_law := fun w h => List.mem_append_left _ (List.mem_append_left _ (List.mem_append_left _ (List.mem_append_left _ (List.mem_append_left _ (List.mem_append_left _ (List.mem_append_left _ (List.mem_append_left _ (List.mem_append_left _ (List.mem_append_left _ (List.mem_append_left _ (List.mem_append_left _ (List.mem_append_left _ (List.mem_append_right _ (List.mem_append_right _ (List.mem_append_right _ (List.mem_append_right _ (List.mem_append_right _ (List.mem_append_right _ (List.mem_append_right _ (List.mem_append_right _ (List.mem_append_right _ (List.mem_append_right _ (List.mem_append_right _ (List.mem_append_right _ (List.mem_append_right _ (List.mem_append_right _ (List.mem_append_right _ (List.mem_append_right _ (List.mem_append_right _ (List.mem_append_right _ (List.mem_append_right _ (List.mem_append_right _ (List.mem_append_right _ (List.mem_append_right _ (List.mem_append_right _ (List.mem_append_right _ (List.mem_append_right _ (List.mem_append_right _ (List.mem_append_right _ (List.mem_append_right _ (List.mem_append_right _ (List.mem_append_right _ (List.mem_append_right _ (List.mem_append_right _ (List.mem_append_right _ (List.mem_append_right _ (List.mem_append_right _ (List.mem_append_right _ (List.mem_append_right _ (List.mem_append_right _ (List.mem_append_right _ (List.mem_append_right _ (List.mem_append_right _ (List.mem_append_right _ (List.mem_append_right _ (List.mem_append_right _ (List.mem_append_right _ (List.mem_append_right _ (List.mem_append_right _ (List.mem_append_right _ (List.mem_append_right _ (List.mem_append_right _ (List.mem_append_right _ (List.mem_append_right _ (List.mem_append_right _ (List.mem_append_right _ (List.mem_append_right _ (List.mem_append_right _ (List.mem_append_right _ (List.mem_append_right _ (List.mem_append_right _ (List.mem_append_right _ (List.mem_append_right _ (List.mem_append_right _ (List.mem_append_right _ (List.mem_append_right _ (List.mem_append_right _ (List.mem_append_right _ (List.mem_append_left _ (h))))))))))))))))))))))))))))))))))))))))))))))))))))))))))))))))))))))))))))))))
theorem mB68 : ∀ w ∈ wsL_law0_r68, w ∈ wsL_law := fun w h => List.mem_append_left _ (List.mem_append_left _ (List.mem_append_left _ (List.mem_append_left _ (List.mem_append_left _ (List.mem_append_left _ (List.mem_append_left _ (List.mem_append_left _ (List.mem_append_left _ (List.mem_append_left _ (List.mem_append_left _ (List.mem_append_left _ (List.mem_append_left _ (List.mem_append_right _ (List.mem_append_right _ (List.mem_append_right _ (List.mem_append_right _ (List.mem_append_right _ (List.mem_append_right _ (List.mem_append_right _ (List.mem_append_right _ (List.mem_append_right _ (List.mem_append_right _ (List.mem_append_right _ (List.mem_append_right _ (List.mem_append_right _ (List.mem_append_right _ (List.mem_append_right _ (List.mem_append_right _ (List.mem_append_right _ (List.mem_append_right _ (List.mem_append_right _ (List.mem_append_right _ (List.mem_append_right _ (List.mem_append_right _ (List.mem_append_right _ (List.mem_append_right _ (List.mem_append_right _ (List.mem_append_right _ (List.mem_append_right _ (List.mem_append_right _ (List.mem_append_right _ (List.mem_append_right _ (List.mem_append_right _ (List.mem_append_right _ (List.mem_append_right _ (List.mem_append_right _ (List.mem_append_right _ (List.mem_append_right _ (List.mem_append_right _ (List.mem_append_right _ (List.mem_append_right _ (List.mem_append_right _ (List.mem_append_right _ (List.mem_append_right _ (List.mem_append_right _ (List.mem_append_right _ (List.mem_append_right _ (List.mem_append_right _ (List.mem_append_right _ (List.mem_append_right _ (List.mem_append_right _ (List.mem_append_right _ (List.mem_append_right _ (List.mem_append_right _ (List.mem_append_right _ (List.mem_append_right _ (List.mem_append_right _ (List.mem_append_right _ (List.mem_append_right _ (List.mem_append_right _ (List.mem_append_right _ (List.mem_append_right _ (List.mem_append_right _ (List.mem_append_right _ (List.mem_append_right _ (List.mem_append_right _ (List.mem_append_right _ (List.mem_append_right _ (List.mem_append_right _ (h))))))))))))))))))))))))))))))))))))))))))))))))))))))))))))))))))))))))))))))))
