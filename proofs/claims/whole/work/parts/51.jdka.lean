def wz_J7_fill_53178 : List Cond := .code yJ7_fill_53178 cJ7_fill_53178 4 none :: wsL_law
abbrev r_J7_fill_53178 : Room := { frames := 0, cells := 0, slots := 0, locals := 0 }
set_option maxHeartbeats 4000000 in
set_option maxRecDepth 100000 in
theorem c_J7_fill_53178 (l : Launch) (D : va_G) (K : Nat → ClassId) (F : Nat) (aq0 nq0 : Nat) (sz : Nat) (fq0 : (Nat → Int32)) (p1 : Int32) (res : (Nat → Int32)) (hf : f_J7_fill_53178 F nq0 p1 fq0 = some res) : Met l yJ7_fill_53178 wz_J7_fill_53178 r_J7_fill_53178 (va_Pc [.ref aq0, .int p1] (PW D K (wAI K aq0 nq0 fq0) sz)) (va_Qv (fun u => u = res) (fun u t => BW D K (va_A (wAI K aq0 nq0 fq0) sz) (wAI K aq0 nq0 u) t) (va_A (wAI K aq0 nq0 fq0) sz)) 0 0 (va_A (wAI K aq0 nq0 fq0) sz) := by
  refine Met.ofW (cc := cJ7_fill_53178) (maxL := 4) (ret := none) (by decide) rfl ?_
  intro p e s m args below meth c s₁ B hml hv
  obtain ⟨hargs, hsz, hP, hK, hD0⟩ := hv
  have hx := B.exec
  have hb := B.bytes
  have hr := B.returns
  have hts := atoms_spec (ws := wz_J7_fill_53178) B.pre
  have htl : ∀ w ∈ wsL_law, w.before args s = true := fun w h => hts w (List.mem_cons_of_mem _ h)
  have hown : s.vm.findClass RJ7 = some m.cls := findClass_of_methodNamed B.named
  have hlocks := B.notSynchronized
  subst hsz
  have hD := hD0.self (sz := s.heap.size)
  generalize hAe : va_A (wAI K aq0 nq0 fq0) s.heap.size = A at hD ⊢
  have hA : ∀ q : Nat, s.heap.size ≤ q → A q := fun q h => by rw [← hAe]; exact Or.inr h
  have hS : va_S A s.heap s.heap [] := va_S.rf
  suffices hgo : ∀ Q : State → Prop, Q = MQ below (va_Qv (fun u => u = res) (fun u t => BW D K A (wAI K aq0 nq0 u) t) A) args s 0 0 A → W p l e (headSpec wz_J7_fill_53178 r_J7_fill_53178).room s m args below meth c s.heap [] 0 0 Q (entryFrame m args 4) from hgo _ rfl
  intro Q hQ
  have w5 : ∀ (n : Nat), ∀ (x2 : Int32), ∀ (x3 : Int32), ∀ (fq0 : (Nat → Int32)), ∀ (H : Heap) (locs : List Loc) (ls : Array Slot), f_J7_fill_53178_5 F nq0 p1 n x2 x3 fq0 = some res → va_P D vwCl (wAI K aq0 nq0 fq0) H → va_D A (wAI K aq0 nq0 fq0) → va_S A s.heap H locs → lv_has ls 4 [(0, .ref aq0), (1, .int p1), (2, .int x2), (3, .int x3)] → W p l e (headSpec wz_J7_fill_53178 r_J7_fill_53178).room s m args below meth c H locs 0 0 Q (F0 m 5 ls []) := by
    intro n
    induction n with
    | zero =>
      intro x2 x3 fq0 H locs ls hf
      exact absurd (show none = some res from hf) (fun h => nomatch h)
    | succ n ih =>
      intro x2 x3 fq0 H locs ls hf hP hD hS hl
      rw [f_J7_fill_53178_5] at hf
      refine lv_iload_n hx hb dJ7_fill_53178_5 rfl (lv_at hl 2 rfl) ?_
      refine lv_iload_n hx hb dJ7_fill_53178_6 rfl (lv_at hl 3 rfl) ?_
      refine lv_icmp_ge (tgt := 20) hx hb dJ7_fill_53178_7 (by decide) (fun c1 => ?_) (fun c1 => ?_)
      · have hf := it_t hf c1
        have e9 := Option.some.inj hf
        rw [hQ]
        exact W.vret hx hb hr (fun t ht hW => ⟨⟨fq0, rfl, e9, ⟨by rw [ht]; exact hP, va_K.moved hW.alike hK, hD⟩⟩, hS.F ht⟩) hS.2.2 dJ7_fill_53178_20
      · have hf := it_f hf c1
        refine lv_aload_n hx hb dJ7_fill_53178_10 rfl (lv_at hl 0 rfl) ?_
        refine lv_iload_n hx hb dJ7_fill_53178_11 rfl (lv_at hl 2 rfl) ?_
        refine lv_iload_n hx hb dJ7_fill_53178_12 rfl (lv_at hl 1 rfl) ?_
        obtain ⟨g2, hf⟩ := gd_s hf
        refine va_iast hx hb hK hP hD hS 0 0 (f := fq0) o_AI rfl (vpb_in g2) dJ7_fill_53178_13 (fun H locs hP hD hS => ?_)
        have hP := cvP s_AI hP
        have hD := cvD s_AI hD
        obtain ⟨g3, eg3⟩ : ∃ z, z = upd fq0 x2.toNatClampNeg p1 := ⟨_, rfl⟩
        have hP : va_P D vwCl (wAI K aq0 nq0 g3) H := by rw [eg3]; exact hP
        have hD : va_D A (wAI K aq0 nq0 g3) := by rw [eg3]; exact hD
        have hf := lz_s hf g3 eg3
        obtain ⟨v4, ev4⟩ : ∃ z : Int32, z = x2 + (1 : Int32) := ⟨_, rfl⟩
        have hf := lz_s hf v4 ev4
        refine lv_iinc (v := v4) (lv' := [(2, .int v4), (0, .ref aq0), (1, .int p1), (3, .int x3)]) hx hb dJ7_fill_53178_14 hl (k := 2) rfl (by rw [ev4]; rfl) (by decide) rfl (fun ls hl => ?_)
        refine lv_goto (tgt := 5) hx hb dJ7_fill_53178_17 (by decide) ?_
        exact ih v4 x3 g3 H locs ls hf hP hD hS (lv_sub hl [1, 2, 0, 3] rfl)
  have hen : entryFrame m args 4 = entryFrame m (([.ref aq0, .int p1] : List Value).toArray) 4 := by rw [hargs]
  have hl := lv_entry ([.ref aq0, .int p1]) (n := 4) (Nat.le_of_ble_eq_true rfl)
  rw [hen, lg_entry_eq]
  generalize (lg_sl ([.ref aq0, .int p1]) ++ List.replicate (4 - (lg_sl ([.ref aq0, .int p1])).length) Slot.unset).toArray = ls at hl ⊢
  have hl : lv_has ls 4 [(0, .ref aq0), (1, .int p1)] := hl
  unfold f_J7_fill_53178 at hf
  obtain ⟨H, hHe⟩ : ∃ z, z = s.heap := ⟨_, rfl⟩
  obtain ⟨locs, hLe⟩ : ∃ z : List Loc, z = [] := ⟨_, rfl⟩
  rw [← hLe]
  have hS : va_S A s.heap H locs := by rw [hHe, hLe]; exact hS
  have hP : va_P D vwCl (wAI K aq0 nq0 fq0) H := by rw [hHe]; exact hP
  have hgo : W p l e (headSpec wz_J7_fill_53178 r_J7_fill_53178).room s m args below meth c H locs 0 0 Q (F0 m 0 ls []) := by
    refine lv_iconst (v := (0 : Int32)) hx hb dJ7_fill_53178_0 (by decide) ?_
    refine lv_istore_n (lv' := [(2, .int (0 : Int32)), (0, .ref aq0), (1, .int p1)]) hx hb dJ7_fill_53178_1 rfl hl (by decide) rfl (fun ls hl => ?_)
    refine lv_aload_n hx hb dJ7_fill_53178_2 rfl (lv_at hl 1 rfl) ?_
    refine va_alen hx hb hK hP 0 0 (v := (Int32.ofNat nq0)) o_AI rfl rfl dJ7_fill_53178_3 ?_
    refine lv_istore_n (lv' := [(3, .int (Int32.ofNat nq0)), (2, .int (0 : Int32)), (0, .ref aq0), (1, .int p1)]) hx hb dJ7_fill_53178_4 rfl hl (by decide) rfl (fun ls hl => ?_)
    exact w5 F (0 : Int32) (Int32.ofNat nq0) fq0 H locs ls hf hP hD hS (lv_sub hl [2, 3, 1, 0] rfl)
  rw [hHe] at hgo
  exact hgo

def wz_J7_fill_d0a16 : List Cond := .code yJ7_fill_d0a16 cJ7_fill_d0a16 5 none :: wsL_law
abbrev r_J7_fill_d0a16 : Room := { frames := 0, cells := 0, slots := 0, locals := 0 }
set_option maxHeartbeats 4000000 in
set_option maxRecDepth 100000 in
theorem c_J7_fill_d0a16 (l : Launch) (D : va_G) (K : Nat → ClassId) (F : Nat) (aq0 nq0 : Nat) (sz : Nat) (fq0 : (Nat → Int64)) (p1 : Int64) (res : (Nat → Int64)) (hf : f_J7_fill_d0a16 F nq0 p1 fq0 = some res) : Met l yJ7_fill_d0a16 wz_J7_fill_d0a16 r_J7_fill_d0a16 (va_Pc [.ref aq0, .long p1] (PW D K (wAJ K aq0 nq0 fq0) sz)) (va_Qv (fun u => u = res) (fun u t => BW D K (va_A (wAJ K aq0 nq0 fq0) sz) (wAJ K aq0 nq0 u) t) (va_A (wAJ K aq0 nq0 fq0) sz)) 0 0 (va_A (wAJ K aq0 nq0 fq0) sz) := by
  refine Met.ofW (cc := cJ7_fill_d0a16) (maxL := 5) (ret := none) (by decide) rfl ?_
  intro p e s m args below meth c s₁ B hml hv
  obtain ⟨hargs, hsz, hP, hK, hD0⟩ := hv
  have hx := B.exec
  have hb := B.bytes
  have hr := B.returns
  have hts := atoms_spec (ws := wz_J7_fill_d0a16) B.pre
  have htl : ∀ w ∈ wsL_law, w.before args s = true := fun w h => hts w (List.mem_cons_of_mem _ h)
  have hown : s.vm.findClass RJ7 = some m.cls := findClass_of_methodNamed B.named
  have hlocks := B.notSynchronized
  subst hsz
  have hD := hD0.self (sz := s.heap.size)
  generalize hAe : va_A (wAJ K aq0 nq0 fq0) s.heap.size = A at hD ⊢
  have hA : ∀ q : Nat, s.heap.size ≤ q → A q := fun q h => by rw [← hAe]; exact Or.inr h
  have hS : va_S A s.heap s.heap [] := va_S.rf
  suffices hgo : ∀ Q : State → Prop, Q = MQ below (va_Qv (fun u => u = res) (fun u t => BW D K A (wAJ K aq0 nq0 u) t) A) args s 0 0 A → W p l e (headSpec wz_J7_fill_d0a16 r_J7_fill_d0a16).room s m args below meth c s.heap [] 0 0 Q (entryFrame m args 5) from hgo _ rfl
  intro Q hQ
  have w6 : ∀ (n : Nat), ∀ (x3 : Int32), ∀ (x4 : Int32), ∀ (fq0 : (Nat → Int64)), ∀ (H : Heap) (locs : List Loc) (ls : Array Slot), f_J7_fill_d0a16_6 F nq0 p1 n x3 x4 fq0 = some res → va_P D vwCl (wAJ K aq0 nq0 fq0) H → va_D A (wAJ K aq0 nq0 fq0) → va_S A s.heap H locs → lv_has ls 5 [(0, .ref aq0), (1, .long p1), (3, .int x3), (4, .int x4)] → W p l e (headSpec wz_J7_fill_d0a16 r_J7_fill_d0a16).room s m args below meth c H locs 0 0 Q (F0 m 6 ls []) := by
    intro n
    induction n with
    | zero =>
      intro x3 x4 fq0 H locs ls hf
      exact absurd (show none = some res from hf) (fun h => nomatch h)
    | succ n ih =>
      intro x3 x4 fq0 H locs ls hf hP hD hS hl
      rw [f_J7_fill_d0a16_6] at hf
      refine lv_iload_n hx hb dJ7_fill_d0a16_6 rfl (lv_at hl 2 rfl) ?_
      refine lv_iload hx hb dJ7_fill_d0a16_7 (lv_at hl 3 rfl) ?_
      refine lv_icmp_ge (tgt := 22) hx hb dJ7_fill_d0a16_9 (by decide) (fun c1 => ?_) (fun c1 => ?_)
      · have hf := it_t hf c1
        have e9 := Option.some.inj hf
        rw [hQ]
        exact W.vret hx hb hr (fun t ht hW => ⟨⟨fq0, rfl, e9, ⟨by rw [ht]; exact hP, va_K.moved hW.alike hK, hD⟩⟩, hS.F ht⟩) hS.2.2 dJ7_fill_d0a16_22
      · have hf := it_f hf c1
        refine lv_aload_n hx hb dJ7_fill_d0a16_12 rfl (lv_at hl 0 rfl) ?_
        refine lv_iload_n hx hb dJ7_fill_d0a16_13 rfl (lv_at hl 2 rfl) ?_
        refine lv_lload_n hx hb dJ7_fill_d0a16_14 rfl (lv_at hl 1 rfl) ?_
        obtain ⟨g2, hf⟩ := gd_s hf
        refine va_last hx hb hK hP hD hS 0 1 (f := fq0) o_AJ rfl (vpb_in g2) dJ7_fill_d0a16_15 (fun H locs hP hD hS => ?_)
        have hP := cvP s_AJ hP
        have hD := cvD s_AJ hD
        obtain ⟨g3, eg3⟩ : ∃ z, z = vp_updL fq0 x3.toNatClampNeg p1 := ⟨_, rfl⟩
        have hP : va_P D vwCl (wAJ K aq0 nq0 g3) H := by rw [eg3]; exact hP
        have hD : va_D A (wAJ K aq0 nq0 g3) := by rw [eg3]; exact hD
        have hf := lz_s hf g3 eg3
        obtain ⟨v4, ev4⟩ : ∃ z : Int32, z = x3 + (1 : Int32) := ⟨_, rfl⟩
        have hf := lz_s hf v4 ev4
        refine lv_iinc (v := v4) (lv' := [(3, .int v4), (0, .ref aq0), (1, .long p1), (4, .int x4)]) hx hb dJ7_fill_d0a16_16 hl (k := 2) rfl (by rw [ev4]; rfl) (by decide) rfl (fun ls hl => ?_)
        refine lv_goto (tgt := 6) hx hb dJ7_fill_d0a16_19 (by decide) ?_
        exact ih v4 x4 g3 H locs ls hf hP hD hS (lv_sub hl [1, 2, 0, 3] rfl)
  have hen : entryFrame m args 5 = entryFrame m (([.ref aq0, .long p1] : List Value).toArray) 5 := by rw [hargs]
  have hl := lv_entry ([.ref aq0, .long p1]) (n := 5) (Nat.le_of_ble_eq_true rfl)
  rw [hen, lg_entry_eq]
  generalize (lg_sl ([.ref aq0, .long p1]) ++ List.replicate (5 - (lg_sl ([.ref aq0, .long p1])).length) Slot.unset).toArray = ls at hl ⊢
  have hl : lv_has ls 5 [(0, .ref aq0), (1, .long p1)] := hl
  unfold f_J7_fill_d0a16 at hf
  obtain ⟨H, hHe⟩ : ∃ z, z = s.heap := ⟨_, rfl⟩
  obtain ⟨locs, hLe⟩ : ∃ z : List Loc, z = [] := ⟨_, rfl⟩
  rw [← hLe]
  have hS : va_S A s.heap H locs := by rw [hHe, hLe]; exact hS
  have hP : va_P D vwCl (wAJ K aq0 nq0 fq0) H := by rw [hHe]; exact hP
  have hgo : W p l e (headSpec wz_J7_fill_d0a16 r_J7_fill_d0a16).room s m args below meth c H locs 0 0 Q (F0 m 0 ls []) := by
    refine lv_iconst (v := (0 : Int32)) hx hb dJ7_fill_d0a16_0 (by decide) ?_
    refine lv_istore_n (lv' := [(3, .int (0 : Int32)), (0, .ref aq0), (1, .long p1)]) hx hb dJ7_fill_d0a16_1 rfl hl (by decide) rfl (fun ls hl => ?_)
    refine lv_aload_n hx hb dJ7_fill_d0a16_2 rfl (lv_at hl 1 rfl) ?_
    refine va_alen hx hb hK hP 0 1 (v := (Int32.ofNat nq0)) o_AJ rfl rfl dJ7_fill_d0a16_3 ?_
    refine lv_istore (lv' := [(4, .int (Int32.ofNat nq0)), (3, .int (0 : Int32)), (0, .ref aq0), (1, .long p1)]) hx hb dJ7_fill_d0a16_4 hl (by decide) rfl (fun ls hl => ?_)
    exact w6 F (0 : Int32) (Int32.ofNat nq0) fq0 H locs ls hf hP hD hS (lv_sub hl [2, 3, 1, 0] rfl)
  rw [hHe] at hgo
  exact hgo

def wz_J6_numberOfLeadingZeros_0f7a4 : List Cond := .code yJ6_numberOfLeadingZeros_0f7a4 cJ6_numberOfLeadingZeros_0f7a4 2 (some .int) :: wsL_law
abbrev r_J6_numberOfLeadingZeros_0f7a4 : Room := { frames := 0, cells := 0, slots := 0, locals := 0 }
set_option maxHeartbeats 4000000 in
set_option maxRecDepth 100000 in
theorem c_J6_numberOfLeadingZeros_0f7a4 (l : Launch) (D : va_G) (K : Nat → ClassId) (F : Nat) (p0 : Int32) (res : Int32) (hf : f_J6_numberOfLeadingZeros_0f7a4 F p0 = some res) : Met l yJ6_numberOfLeadingZeros_0f7a4 wz_J6_numberOfLeadingZeros_0f7a4 r_J6_numberOfLeadingZeros_0f7a4 (va_Pc [.int p0] (PR D K (([] : va_W)))) (va_Qi (fun r (_ : Unit) => r = res) BN nOne) 0 0 nOne := by
  refine Met.ofW (cc := cJ6_numberOfLeadingZeros_0f7a4) (maxL := 2) (ret := (some .int)) (by decide) rfl ?_
  intro p e s m args below meth c s₁ B hml hv
  obtain ⟨hargs, hP, hK⟩ := hv
  have hx := B.exec
  have hb := B.bytes
  have hr := B.returns
  have hts := atoms_spec (ws := wz_J6_numberOfLeadingZeros_0f7a4) B.pre
  have htl : ∀ w ∈ wsL_law, w.before args s = true := fun w h => hts w (List.mem_cons_of_mem _ h)
  have hown : s.vm.findClass RJ6 = some m.cls := findClass_of_methodNamed B.named
  have hlocks := B.notSynchronized
  have hS : va_S nOne s.heap s.heap [] := va_S.rf
  suffices hgo : ∀ Q : State → Prop, Q = MQ below (va_Qi (fun r (_ : Unit) => r = res) BN nOne) args s 0 0 nOne → W p l e (headSpec wz_J6_numberOfLeadingZeros_0f7a4 r_J6_numberOfLeadingZeros_0f7a4).room s m args below meth c s.heap [] 0 0 Q (entryFrame m args 2) from hgo _ rfl
  intro Q hQ
  have w73 : ∀ (x0 : Int32), ∀ (x1 : Int32), ∀ (H : Heap) (locs : List Loc) (ls : Array Slot), f_J6_numberOfLeadingZeros_0f7a4_73 F x0 x1 = some res → va_P D vwCl (([] : va_W)) H → va_S nOne s.heap H locs → lv_has ls 2 [(0, .int x0), (1, .int x1)] → W p l e (headSpec wz_J6_numberOfLeadingZeros_0f7a4 r_J6_numberOfLeadingZeros_0f7a4).room s m args below meth c H locs 0 0 Q (F0 m 73 ls []) := by
    intro x0 x1 H locs ls hf hP hS hl
    unfold f_J6_numberOfLeadingZeros_0f7a4_73 at hf
    refine lv_iload_n hx hb dJ6_numberOfLeadingZeros_0f7a4_73 rfl (lv_at hl 1 rfl) ?_
    refine lv_iload_n hx hb dJ6_numberOfLeadingZeros_0f7a4_74 rfl (lv_at hl 0 rfl) ?_
    refine lv_iconst (v := (1 : Int32)) hx hb dJ6_numberOfLeadingZeros_0f7a4_75 (by decide) ?_
    refine lv_iushr (v := (x0.toUInt32 >>> ((1 : Int32).toUInt32 &&& Int32.toUInt32 31)).toInt32) hx hb dJ6_numberOfLeadingZeros_0f7a4_76 rfl ?_
    refine lv_topi (fun v15 ev15 => ?_)
    have hf := lz_s hf v15 ev15
    refine lv_isub hx hb dJ6_numberOfLeadingZeros_0f7a4_77 ?_
    have e9 := Option.some.inj hf
    rw [hQ]
    exact W.iret (v := (x1 - v15)) hx hb hr (fun t ht hW => ⟨⟨(x1 - v15), (), rfl, e9, trivial⟩, hS.F ht⟩) hS.2.2 dJ6_numberOfLeadingZeros_0f7a4_78
  have w61 : ∀ (x0 : Int32), ∀ (x1 : Int32), ∀ (H : Heap) (locs : List Loc) (ls : Array Slot), f_J6_numberOfLeadingZeros_0f7a4_61 F x0 x1 = some res → va_P D vwCl (([] : va_W)) H → va_S nOne s.heap H locs → lv_has ls 2 [(0, .int x0), (1, .int x1)] → W p l e (headSpec wz_J6_numberOfLeadingZeros_0f7a4 r_J6_numberOfLeadingZeros_0f7a4).room s m args below meth c H locs 0 0 Q (F0 m 61 ls []) := by
    intro x0 x1 H locs ls hf hP hS hl
    unfold f_J6_numberOfLeadingZeros_0f7a4_61 at hf
    refine lv_iload_n hx hb dJ6_numberOfLeadingZeros_0f7a4_61 rfl (lv_at hl 0 rfl) ?_
    refine lv_iconst (v := (4 : Int32)) hx hb dJ6_numberOfLeadingZeros_0f7a4_62 (by decide) ?_
    refine lv_icmp_lt (tgt := 73) hx hb dJ6_numberOfLeadingZeros_0f7a4_63 (by decide) (fun c12 => ?_) (fun c12 => ?_)
    · have hf := it_t hf c12
      exact w73 x0 x1 H locs ls hf hP hS (lv_sub hl [0, 1] rfl)
    · have hf := it_f hf c12
      obtain ⟨v13, ev13⟩ : ∃ z : Int32, z = x1 + (-2 : Int32) := ⟨_, rfl⟩
      have hf := lz_s hf v13 ev13
      refine lv_iinc (v := v13) (lv' := [(1, .int v13), (0, .int x0)]) hx hb dJ6_numberOfLeadingZeros_0f7a4_66 hl (k := 1) rfl (by rw [ev13]; rfl) (by decide) rfl (fun ls hl => ?_)
      refine lv_iload_n hx hb dJ6_numberOfLeadingZeros_0f7a4_69 rfl (lv_at hl 1 rfl) ?_
      refine lv_iconst (v := (2 : Int32)) hx hb dJ6_numberOfLeadingZeros_0f7a4_70 (by decide) ?_
      refine lv_iushr (v := (x0.toUInt32 >>> ((2 : Int32).toUInt32 &&& Int32.toUInt32 31)).toInt32) hx hb dJ6_numberOfLeadingZeros_0f7a4_71 rfl ?_
      refine lv_topi (fun v14 ev14 => ?_)
      have hf := lz_s hf v14 ev14
      refine lv_istore_n (lv' := [(0, .int v14), (1, .int v13)]) hx hb dJ6_numberOfLeadingZeros_0f7a4_72 rfl hl (by decide) rfl (fun ls hl => ?_)
      exact w73 v14 v13 H locs ls hf hP hS (lv_sub hl [0, 1] rfl)
  have w48 : ∀ (x0 : Int32), ∀ (x1 : Int32), ∀ (H : Heap) (locs : List Loc) (ls : Array Slot), f_J6_numberOfLeadingZeros_0f7a4_48 F x0 x1 = some res → va_P D vwCl (([] : va_W)) H → va_S nOne s.heap H locs → lv_has ls 2 [(0, .int x0), (1, .int x1)] → W p l e (headSpec wz_J6_numberOfLeadingZeros_0f7a4 r_J6_numberOfLeadingZeros_0f7a4).room s m args below meth c H locs 0 0 Q (F0 m 48 ls []) := by
    intro x0 x1 H locs ls hf hP hS hl
    unfold f_J6_numberOfLeadingZeros_0f7a4_48 at hf
    refine lv_iload_n hx hb dJ6_numberOfLeadingZeros_0f7a4_48 rfl (lv_at hl 0 rfl) ?_
    refine lv_bipush (v := (16 : Int32)) hx hb dJ6_numberOfLeadingZeros_0f7a4_49 (by decide) ?_
    refine lv_icmp_lt (tgt := 61) hx hb dJ6_numberOfLeadingZeros_0f7a4_51 (by decide) (fun c9 => ?_) (fun c9 => ?_)
    · have hf := it_t hf c9
      exact w61 x0 x1 H locs ls hf hP hS (lv_sub hl [0, 1] rfl)
    · have hf := it_f hf c9
      obtain ⟨v10, ev10⟩ : ∃ z : Int32, z = x1 + (-4 : Int32) := ⟨_, rfl⟩
      have hf := lz_s hf v10 ev10
      refine lv_iinc (v := v10) (lv' := [(1, .int v10), (0, .int x0)]) hx hb dJ6_numberOfLeadingZeros_0f7a4_54 hl (k := 1) rfl (by rw [ev10]; rfl) (by decide) rfl (fun ls hl => ?_)
      refine lv_iload_n hx hb dJ6_numberOfLeadingZeros_0f7a4_57 rfl (lv_at hl 1 rfl) ?_
      refine lv_iconst (v := (4 : Int32)) hx hb dJ6_numberOfLeadingZeros_0f7a4_58 (by decide) ?_
      refine lv_iushr (v := (x0.toUInt32 >>> ((4 : Int32).toUInt32 &&& Int32.toUInt32 31)).toInt32) hx hb dJ6_numberOfLeadingZeros_0f7a4_59 rfl ?_
      refine lv_topi (fun v11 ev11 => ?_)
      have hf := lz_s hf v11 ev11
      refine lv_istore_n (lv' := [(0, .int v11), (1, .int v10)]) hx hb dJ6_numberOfLeadingZeros_0f7a4_60 rfl hl (by decide) rfl (fun ls hl => ?_)
      exact w61 v11 v10 H locs ls hf hP hS (lv_sub hl [0, 1] rfl)
  have w33 : ∀ (x0 : Int32), ∀ (x1 : Int32), ∀ (H : Heap) (locs : List Loc) (ls : Array Slot), f_J6_numberOfLeadingZeros_0f7a4_33 F x0 x1 = some res → va_P D vwCl (([] : va_W)) H → va_S nOne s.heap H locs → lv_has ls 2 [(0, .int x0), (1, .int x1)] → W p l e (headSpec wz_J6_numberOfLeadingZeros_0f7a4 r_J6_numberOfLeadingZeros_0f7a4).room s m args below meth c H locs 0 0 Q (F0 m 33 ls []) := by
    intro x0 x1 H locs ls hf hP hS hl
    unfold f_J6_numberOfLeadingZeros_0f7a4_33 at hf
    refine lv_iload_n hx hb dJ6_numberOfLeadingZeros_0f7a4_33 rfl (lv_at hl 0 rfl) ?_
    refine lv_sipush (v := (256 : Int32)) hx hb dJ6_numberOfLeadingZeros_0f7a4_34 (by decide) ?_
    refine lv_icmp_lt (tgt := 48) hx hb dJ6_numberOfLeadingZeros_0f7a4_37 (by decide) (fun c6 => ?_) (fun c6 => ?_)
    · have hf := it_t hf c6
      exact w48 x0 x1 H locs ls hf hP hS (lv_sub hl [0, 1] rfl)
    · have hf := it_f hf c6
      obtain ⟨v7, ev7⟩ : ∃ z : Int32, z = x1 + (-8 : Int32) := ⟨_, rfl⟩
      have hf := lz_s hf v7 ev7
      refine lv_iinc (v := v7) (lv' := [(1, .int v7), (0, .int x0)]) hx hb dJ6_numberOfLeadingZeros_0f7a4_40 hl (k := 1) rfl (by rw [ev7]; rfl) (by decide) rfl (fun ls hl => ?_)
      refine lv_iload_n hx hb dJ6_numberOfLeadingZeros_0f7a4_43 rfl (lv_at hl 1 rfl) ?_
      refine lv_bipush (v := (8 : Int32)) hx hb dJ6_numberOfLeadingZeros_0f7a4_44 (by decide) ?_
      refine lv_iushr (v := (x0.toUInt32 >>> ((8 : Int32).toUInt32 &&& Int32.toUInt32 31)).toInt32) hx hb dJ6_numberOfLeadingZeros_0f7a4_46 rfl ?_
      refine lv_topi (fun v8 ev8 => ?_)
      have hf := lz_s hf v8 ev8
      refine lv_istore_n (lv' := [(0, .int v8), (1, .int v7)]) hx hb dJ6_numberOfLeadingZeros_0f7a4_47 rfl hl (by decide) rfl (fun ls hl => ?_)
      exact w48 v8 v7 H locs ls hf hP hS (lv_sub hl [0, 1] rfl)
  have hen : entryFrame m args 2 = entryFrame m (([.int p0] : List Value).toArray) 2 := by rw [hargs]
  have hl := lv_entry ([.int p0]) (n := 2) (Nat.le_of_ble_eq_true rfl)
  rw [hen, lg_entry_eq]
  generalize (lg_sl ([.int p0]) ++ List.replicate (2 - (lg_sl ([.int p0])).length) Slot.unset).toArray = ls at hl ⊢
  have hl : lv_has ls 2 [(0, .int p0)] := hl
  unfold f_J6_numberOfLeadingZeros_0f7a4 at hf
  obtain ⟨H, hHe⟩ : ∃ z, z = s.heap := ⟨_, rfl⟩
  obtain ⟨locs, hLe⟩ : ∃ z : List Loc, z = [] := ⟨_, rfl⟩
  rw [← hLe]
  have hS : va_S nOne s.heap H locs := by rw [hHe, hLe]; exact hS
  have hP : va_P D vwCl (([] : va_W)) H := by rw [hHe]; exact hP
  have hgo : W p l e (headSpec wz_J6_numberOfLeadingZeros_0f7a4 r_J6_numberOfLeadingZeros_0f7a4).room s m args below meth c H locs 0 0 Q (F0 m 0 ls []) := by
    refine lv_iload_n hx hb dJ6_numberOfLeadingZeros_0f7a4_0 rfl (lv_at hl 0 rfl) ?_
    refine lv_if_gt (tgt := 15) hx hb dJ6_numberOfLeadingZeros_0f7a4_1 (by decide) (fun c1 => ?_) (fun c1 => ?_)
    · have hf := it_t hf c1
      refine lv_bipush (v := (31 : Int32)) hx hb dJ6_numberOfLeadingZeros_0f7a4_15 (by decide) ?_
      refine lv_istore_n (lv' := [(1, .int (31 : Int32)), (0, .int p0)]) hx hb dJ6_numberOfLeadingZeros_0f7a4_17 rfl hl (by decide) rfl (fun ls hl => ?_)
      refine lv_iload_n hx hb dJ6_numberOfLeadingZeros_0f7a4_18 rfl (lv_at hl 1 rfl) ?_
      refine lv_ldcw (v := (65536 : Int32)) hx hb hown (htl _ (mB59 _ (List.mem_of_getElem? (i := 13) rfl))) dJ6_numberOfLeadingZeros_0f7a4_19 ?_
      refine lv_icmp_lt (tgt := 33) hx hb dJ6_numberOfLeadingZeros_0f7a4_22 (by decide) (fun c2 => ?_) (fun c2 => ?_)
      · have hf := it_t hf c2
        exact w33 p0 (31 : Int32) H locs ls hf hP hS (lv_sub hl [1, 0] rfl)
      · have hf := it_f hf c2
        obtain ⟨v3, ev3⟩ : ∃ z : Int32, z = (31 : Int32) + (-16 : Int32) := ⟨_, rfl⟩
        have hf := lz_s hf v3 ev3
        refine lv_iinc (v := v3) (lv' := [(1, .int v3), (0, .int p0)]) hx hb dJ6_numberOfLeadingZeros_0f7a4_25 hl (k := 0) rfl (by rw [ev3]; rfl) (by decide) rfl (fun ls hl => ?_)
        refine lv_iload_n hx hb dJ6_numberOfLeadingZeros_0f7a4_28 rfl (lv_at hl 1 rfl) ?_
        refine lv_bipush (v := (16 : Int32)) hx hb dJ6_numberOfLeadingZeros_0f7a4_29 (by decide) ?_
        refine lv_iushr (v := (p0.toUInt32 >>> ((16 : Int32).toUInt32 &&& Int32.toUInt32 31)).toInt32) hx hb dJ6_numberOfLeadingZeros_0f7a4_31 rfl ?_
        refine lv_topi (fun v4 ev4 => ?_)
        have hf := lz_s hf v4 ev4
        refine lv_istore_n (lv' := [(0, .int v4), (1, .int v3)]) hx hb dJ6_numberOfLeadingZeros_0f7a4_32 rfl hl (by decide) rfl (fun ls hl => ?_)
        exact w33 v4 v3 H locs ls hf hP hS (lv_sub hl [0, 1] rfl)
    · have hf := it_f hf c1
      refine lv_iload_n hx hb dJ6_numberOfLeadingZeros_0f7a4_4 rfl (lv_at hl 0 rfl) ?_
      refine lv_if_ne (tgt := 13) hx hb dJ6_numberOfLeadingZeros_0f7a4_5 (by decide) (fun c5 => ?_) (fun c5 => ?_)
      · have hf := it_f hf c5
        refine lv_iconst (v := (0 : Int32)) hx hb dJ6_numberOfLeadingZeros_0f7a4_13 (by decide) ?_
        have e9 := Option.some.inj hf
        rw [hQ]
        exact W.iret (v := (0 : Int32)) hx hb hr (fun t ht hW => ⟨⟨(0 : Int32), (), rfl, e9, trivial⟩, hS.F ht⟩) hS.2.2 dJ6_numberOfLeadingZeros_0f7a4_14
      · have hf := it_t hf c5
        refine lv_bipush (v := (32 : Int32)) hx hb dJ6_numberOfLeadingZeros_0f7a4_8 (by decide) ?_
        refine lv_goto (tgt := 14) hx hb dJ6_numberOfLeadingZeros_0f7a4_10 (by decide) ?_
        have e9 := Option.some.inj hf
        rw [hQ]
        exact W.iret (v := (32 : Int32)) hx hb hr (fun t ht hW => ⟨⟨(32 : Int32), (), rfl, e9, trivial⟩, hS.F ht⟩) hS.2.2 dJ6_numberOfLeadingZeros_0f7a4_14
  rw [hHe] at hgo
  exact hgo

def wz_J6_numberOfTrailingZeros_0f7a4 : List Cond := .code yJ6_numberOfTrailingZeros_0f7a4 cJ6_numberOfTrailingZeros_0f7a4 2 (some .int) :: wsL_law
abbrev r_J6_numberOfTrailingZeros_0f7a4 : Room := { frames := 0, cells := 0, slots := 0, locals := 0 }
set_option maxHeartbeats 4000000 in
set_option maxRecDepth 100000 in
theorem c_J6_numberOfTrailingZeros_0f7a4 (l : Launch) (D : va_G) (K : Nat → ClassId) (F : Nat) (p0 : Int32) (res : Int32) (hf : f_J6_numberOfTrailingZeros_0f7a4 F p0 = some res) : Met l yJ6_numberOfTrailingZeros_0f7a4 wz_J6_numberOfTrailingZeros_0f7a4 r_J6_numberOfTrailingZeros_0f7a4 (va_Pc [.int p0] (PR D K (([] : va_W)))) (va_Qi (fun r (_ : Unit) => r = res) BN nOne) 0 0 nOne := by
  refine Met.ofW (cc := cJ6_numberOfTrailingZeros_0f7a4) (maxL := 2) (ret := (some .int)) (by decide) rfl ?_
  intro p e s m args below meth c s₁ B hml hv
  obtain ⟨hargs, hP, hK⟩ := hv
  have hx := B.exec
  have hb := B.bytes
  have hr := B.returns
  have hts := atoms_spec (ws := wz_J6_numberOfTrailingZeros_0f7a4) B.pre
  have htl : ∀ w ∈ wsL_law, w.before args s = true := fun w h => hts w (List.mem_cons_of_mem _ h)
  have hown : s.vm.findClass RJ6 = some m.cls := findClass_of_methodNamed B.named
  have hlocks := B.notSynchronized
  have hS : va_S nOne s.heap s.heap [] := va_S.rf
  suffices hgo : ∀ Q : State → Prop, Q = MQ below (va_Qi (fun r (_ : Unit) => r = res) BN nOne) args s 0 0 nOne → W p l e (headSpec wz_J6_numberOfTrailingZeros_0f7a4 r_J6_numberOfTrailingZeros_0f7a4).room s m args below meth c s.heap [] 0 0 Q (entryFrame m args 2) from hgo _ rfl
  intro Q hQ
  have w74 : ∀ (x0 : Int32), ∀ (x1 : Int32), ∀ (H : Heap) (locs : List Loc) (ls : Array Slot), f_J6_numberOfTrailingZeros_0f7a4_74 F x0 x1 = some res → va_P D vwCl (([] : va_W)) H → va_S nOne s.heap H locs → lv_has ls 2 [(0, .int x0), (1, .int x1)] → W p l e (headSpec wz_J6_numberOfTrailingZeros_0f7a4 r_J6_numberOfTrailingZeros_0f7a4).room s m args below meth c H locs 0 0 Q (F0 m 74 ls []) := by
    intro x0 x1 H locs ls hf hP hS hl
    unfold f_J6_numberOfTrailingZeros_0f7a4_74 at hf
    refine lv_iload_n hx hb dJ6_numberOfTrailingZeros_0f7a4_74 rfl (lv_at hl 1 rfl) ?_
    refine lv_iload_n hx hb dJ6_numberOfTrailingZeros_0f7a4_75 rfl (lv_at hl 0 rfl) ?_
    refine lv_iconst (v := (1 : Int32)) hx hb dJ6_numberOfTrailingZeros_0f7a4_76 (by decide) ?_
    refine lv_iushr (v := (x0.toUInt32 >>> ((1 : Int32).toUInt32 &&& Int32.toUInt32 31)).toInt32) hx hb dJ6_numberOfTrailingZeros_0f7a4_77 rfl ?_
    refine lv_topi (fun v15 ev15 => ?_)
    have hf := lz_s hf v15 ev15
    refine lv_iadd hx hb dJ6_numberOfTrailingZeros_0f7a4_78 ?_
    have e9 := Option.some.inj hf
    rw [hQ]
    exact W.iret (v := (x1 + v15)) hx hb hr (fun t ht hW => ⟨⟨(x1 + v15), (), rfl, e9, trivial⟩, hS.F ht⟩) hS.2.2 dJ6_numberOfTrailingZeros_0f7a4_79
  have w62 : ∀ (x0 : Int32), ∀ (x1 : Int32), ∀ (H : Heap) (locs : List Loc) (ls : Array Slot), f_J6_numberOfTrailingZeros_0f7a4_62 F x0 x1 = some res → va_P D vwCl (([] : va_W)) H → va_S nOne s.heap H locs → lv_has ls 2 [(0, .int x0), (1, .int x1)] → W p l e (headSpec wz_J6_numberOfTrailingZeros_0f7a4 r_J6_numberOfTrailingZeros_0f7a4).room s m args below meth c H locs 0 0 Q (F0 m 62 ls []) := by
    intro x0 x1 H locs ls hf hP hS hl
    unfold f_J6_numberOfTrailingZeros_0f7a4_62 at hf
    refine lv_iload_n hx hb dJ6_numberOfTrailingZeros_0f7a4_62 rfl (lv_at hl 0 rfl) ?_
    refine lv_iconst (v := (4 : Int32)) hx hb dJ6_numberOfTrailingZeros_0f7a4_63 (by decide) ?_
    refine lv_icmp_le (tgt := 74) hx hb dJ6_numberOfTrailingZeros_0f7a4_64 (by decide) (fun c12 => ?_) (fun c12 => ?_)
    · have hf := it_t hf c12
      exact w74 x0 x1 H locs ls hf hP hS (lv_sub hl [0, 1] rfl)
    · have hf := it_f hf c12
      obtain ⟨v13, ev13⟩ : ∃ z : Int32, z = x1 + (2 : Int32) := ⟨_, rfl⟩
      have hf := lz_s hf v13 ev13
      refine lv_iinc (v := v13) (lv' := [(1, .int v13), (0, .int x0)]) hx hb dJ6_numberOfTrailingZeros_0f7a4_67 hl (k := 1) rfl (by rw [ev13]; rfl) (by decide) rfl (fun ls hl => ?_)
      refine lv_iload_n hx hb dJ6_numberOfTrailingZeros_0f7a4_70 rfl (lv_at hl 1 rfl) ?_
      refine lv_iconst (v := (2 : Int32)) hx hb dJ6_numberOfTrailingZeros_0f7a4_71 (by decide) ?_
      refine lv_iushr (v := (x0.toUInt32 >>> ((2 : Int32).toUInt32 &&& Int32.toUInt32 31)).toInt32) hx hb dJ6_numberOfTrailingZeros_0f7a4_72 rfl ?_
      refine lv_topi (fun v14 ev14 => ?_)
      have hf := lz_s hf v14 ev14
      refine lv_istore_n (lv' := [(0, .int v14), (1, .int v13)]) hx hb dJ6_numberOfTrailingZeros_0f7a4_73 rfl hl (by decide) rfl (fun ls hl => ?_)
      exact w74 v14 v13 H locs ls hf hP hS (lv_sub hl [0, 1] rfl)
  have w49 : ∀ (x0 : Int32), ∀ (x1 : Int32), ∀ (H : Heap) (locs : List Loc) (ls : Array Slot), f_J6_numberOfTrailingZeros_0f7a4_49 F x0 x1 = some res → va_P D vwCl (([] : va_W)) H → va_S nOne s.heap H locs → lv_has ls 2 [(0, .int x0), (1, .int x1)] → W p l e (headSpec wz_J6_numberOfTrailingZeros_0f7a4 r_J6_numberOfTrailingZeros_0f7a4).room s m args below meth c H locs 0 0 Q (F0 m 49 ls []) := by
    intro x0 x1 H locs ls hf hP hS hl
    unfold f_J6_numberOfTrailingZeros_0f7a4_49 at hf
    refine lv_iload_n hx hb dJ6_numberOfTrailingZeros_0f7a4_49 rfl (lv_at hl 0 rfl) ?_
    refine lv_bipush (v := (16 : Int32)) hx hb dJ6_numberOfTrailingZeros_0f7a4_50 (by decide) ?_
    refine lv_icmp_le (tgt := 62) hx hb dJ6_numberOfTrailingZeros_0f7a4_52 (by decide) (fun c9 => ?_) (fun c9 => ?_)
    · have hf := it_t hf c9
      exact w62 x0 x1 H locs ls hf hP hS (lv_sub hl [0, 1] rfl)
    · have hf := it_f hf c9
      obtain ⟨v10, ev10⟩ : ∃ z : Int32, z = x1 + (4 : Int32) := ⟨_, rfl⟩
      have hf := lz_s hf v10 ev10
      refine lv_iinc (v := v10) (lv' := [(1, .int v10), (0, .int x0)]) hx hb dJ6_numberOfTrailingZeros_0f7a4_55 hl (k := 1) rfl (by rw [ev10]; rfl) (by decide) rfl (fun ls hl => ?_)
      refine lv_iload_n hx hb dJ6_numberOfTrailingZeros_0f7a4_58 rfl (lv_at hl 1 rfl) ?_
      refine lv_iconst (v := (4 : Int32)) hx hb dJ6_numberOfTrailingZeros_0f7a4_59 (by decide) ?_
      refine lv_iushr (v := (x0.toUInt32 >>> ((4 : Int32).toUInt32 &&& Int32.toUInt32 31)).toInt32) hx hb dJ6_numberOfTrailingZeros_0f7a4_60 rfl ?_
      refine lv_topi (fun v11 ev11 => ?_)
      have hf := lz_s hf v11 ev11
      refine lv_istore_n (lv' := [(0, .int v11), (1, .int v10)]) hx hb dJ6_numberOfTrailingZeros_0f7a4_61 rfl hl (by decide) rfl (fun ls hl => ?_)
      exact w62 v11 v10 H locs ls hf hP hS (lv_sub hl [0, 1] rfl)
  have w34 : ∀ (x0 : Int32), ∀ (x1 : Int32), ∀ (H : Heap) (locs : List Loc) (ls : Array Slot), f_J6_numberOfTrailingZeros_0f7a4_34 F x0 x1 = some res → va_P D vwCl (([] : va_W)) H → va_S nOne s.heap H locs → lv_has ls 2 [(0, .int x0), (1, .int x1)] → W p l e (headSpec wz_J6_numberOfTrailingZeros_0f7a4 r_J6_numberOfTrailingZeros_0f7a4).room s m args below meth c H locs 0 0 Q (F0 m 34 ls []) := by
    intro x0 x1 H locs ls hf hP hS hl
    unfold f_J6_numberOfTrailingZeros_0f7a4_34 at hf
    refine lv_iload_n hx hb dJ6_numberOfTrailingZeros_0f7a4_34 rfl (lv_at hl 0 rfl) ?_
    refine lv_sipush (v := (256 : Int32)) hx hb dJ6_numberOfTrailingZeros_0f7a4_35 (by decide) ?_
    refine lv_icmp_le (tgt := 49) hx hb dJ6_numberOfTrailingZeros_0f7a4_38 (by decide) (fun c6 => ?_) (fun c6 => ?_)
    · have hf := it_t hf c6
      exact w49 x0 x1 H locs ls hf hP hS (lv_sub hl [0, 1] rfl)
    · have hf := it_f hf c6
      obtain ⟨v7, ev7⟩ : ∃ z : Int32, z = x1 + (8 : Int32) := ⟨_, rfl⟩
      have hf := lz_s hf v7 ev7
      refine lv_iinc (v := v7) (lv' := [(1, .int v7), (0, .int x0)]) hx hb dJ6_numberOfTrailingZeros_0f7a4_41 hl (k := 1) rfl (by rw [ev7]; rfl) (by decide) rfl (fun ls hl => ?_)
      refine lv_iload_n hx hb dJ6_numberOfTrailingZeros_0f7a4_44 rfl (lv_at hl 1 rfl) ?_
      refine lv_bipush (v := (8 : Int32)) hx hb dJ6_numberOfTrailingZeros_0f7a4_45 (by decide) ?_
      refine lv_iushr (v := (x0.toUInt32 >>> ((8 : Int32).toUInt32 &&& Int32.toUInt32 31)).toInt32) hx hb dJ6_numberOfTrailingZeros_0f7a4_47 rfl ?_
      refine lv_topi (fun v8 ev8 => ?_)
      have hf := lz_s hf v8 ev8
      refine lv_istore_n (lv' := [(0, .int v8), (1, .int v7)]) hx hb dJ6_numberOfTrailingZeros_0f7a4_48 rfl hl (by decide) rfl (fun ls hl => ?_)
      exact w49 v8 v7 H locs ls hf hP hS (lv_sub hl [0, 1] rfl)
  have hen : entryFrame m args 2 = entryFrame m (([.int p0] : List Value).toArray) 2 := by rw [hargs]
  have hl := lv_entry ([.int p0]) (n := 2) (Nat.le_of_ble_eq_true rfl)
  rw [hen, lg_entry_eq]
  generalize (lg_sl ([.int p0]) ++ List.replicate (2 - (lg_sl ([.int p0])).length) Slot.unset).toArray = ls at hl ⊢
  have hl : lv_has ls 2 [(0, .int p0)] := hl
  unfold f_J6_numberOfTrailingZeros_0f7a4 at hf
  obtain ⟨H, hHe⟩ : ∃ z, z = s.heap := ⟨_, rfl⟩
  obtain ⟨locs, hLe⟩ : ∃ z : List Loc, z = [] := ⟨_, rfl⟩
  rw [← hLe]
  have hS : va_S nOne s.heap H locs := by rw [hHe, hLe]; exact hS
  have hP : va_P D vwCl (([] : va_W)) H := by rw [hHe]; exact hP
  have hgo : W p l e (headSpec wz_J6_numberOfTrailingZeros_0f7a4 r_J6_numberOfTrailingZeros_0f7a4).room s m args below meth c H locs 0 0 Q (F0 m 0 ls []) := by
    refine lv_iload_n hx hb dJ6_numberOfTrailingZeros_0f7a4_0 rfl (lv_at hl 0 rfl) ?_
    refine lv_iconst (v := (-1 : Int32)) hx hb dJ6_numberOfTrailingZeros_0f7a4_1 (by decide) ?_
    refine lv_ixor hx hb dJ6_numberOfTrailingZeros_0f7a4_2 ?_
    refine lv_iload_n hx hb dJ6_numberOfTrailingZeros_0f7a4_3 rfl (lv_at hl 0 rfl) ?_
    refine lv_iconst (v := (1 : Int32)) hx hb dJ6_numberOfTrailingZeros_0f7a4_4 (by decide) ?_
    refine lv_isub hx hb dJ6_numberOfTrailingZeros_0f7a4_5 ?_
    refine lv_iand hx hb dJ6_numberOfTrailingZeros_0f7a4_6 ?_
    refine lv_topi (fun v1 ev1 => ?_)
    have hf := lz_s hf v1 ev1
    refine lv_istore_n (lv' := [(0, .int v1)]) hx hb dJ6_numberOfTrailingZeros_0f7a4_7 rfl hl (by decide) rfl (fun ls hl => ?_)
    refine lv_iload_n hx hb dJ6_numberOfTrailingZeros_0f7a4_8 rfl (lv_at hl 0 rfl) ?_
    refine lv_if_gt (tgt := 17) hx hb dJ6_numberOfTrailingZeros_0f7a4_9 (by decide) (fun c2 => ?_) (fun c2 => ?_)
    · have hf := it_t hf c2
      refine lv_iconst (v := (1 : Int32)) hx hb dJ6_numberOfTrailingZeros_0f7a4_17 (by decide) ?_
      refine lv_istore_n (lv' := [(1, .int (1 : Int32)), (0, .int v1)]) hx hb dJ6_numberOfTrailingZeros_0f7a4_18 rfl hl (by decide) rfl (fun ls hl => ?_)
      refine lv_iload_n hx hb dJ6_numberOfTrailingZeros_0f7a4_19 rfl (lv_at hl 1 rfl) ?_
      refine lv_ldcw (v := (65536 : Int32)) hx hb hown (htl _ (mB59 _ (List.mem_of_getElem? (i := 13) rfl))) dJ6_numberOfTrailingZeros_0f7a4_20 ?_
      refine lv_icmp_le (tgt := 34) hx hb dJ6_numberOfTrailingZeros_0f7a4_23 (by decide) (fun c3 => ?_) (fun c3 => ?_)
      · have hf := it_t hf c3
        exact w34 v1 (1 : Int32) H locs ls hf hP hS (lv_sub hl [1, 0] rfl)
      · have hf := it_f hf c3
        obtain ⟨v4, ev4⟩ : ∃ z : Int32, z = (1 : Int32) + (16 : Int32) := ⟨_, rfl⟩
        have hf := lz_s hf v4 ev4
        refine lv_iinc (v := v4) (lv' := [(1, .int v4), (0, .int v1)]) hx hb dJ6_numberOfTrailingZeros_0f7a4_26 hl (k := 0) rfl (by rw [ev4]; rfl) (by decide) rfl (fun ls hl => ?_)
        refine lv_iload_n hx hb dJ6_numberOfTrailingZeros_0f7a4_29 rfl (lv_at hl 1 rfl) ?_
        refine lv_bipush (v := (16 : Int32)) hx hb dJ6_numberOfTrailingZeros_0f7a4_30 (by decide) ?_
        refine lv_iushr (v := (v1.toUInt32 >>> ((16 : Int32).toUInt32 &&& Int32.toUInt32 31)).toInt32) hx hb dJ6_numberOfTrailingZeros_0f7a4_32 rfl ?_
        refine lv_topi (fun v5 ev5 => ?_)
        have hf := lz_s hf v5 ev5
        refine lv_istore_n (lv' := [(0, .int v5), (1, .int v4)]) hx hb dJ6_numberOfTrailingZeros_0f7a4_33 rfl hl (by decide) rfl (fun ls hl => ?_)
        exact w34 v5 v4 H locs ls hf hP hS (lv_sub hl [0, 1] rfl)
    · have hf := it_f hf c2
      refine lv_iload_n hx hb dJ6_numberOfTrailingZeros_0f7a4_12 rfl (lv_at hl 0 rfl) ?_
      refine lv_bipush (v := (32 : Int32)) hx hb dJ6_numberOfTrailingZeros_0f7a4_13 (by decide) ?_
      refine lv_iand hx hb dJ6_numberOfTrailingZeros_0f7a4_15 ?_
      have e9 := Option.some.inj hf
      rw [hQ]
      exact W.iret (v := (v1 &&& (32 : Int32))) hx hb hr (fun t ht hW => ⟨⟨(v1 &&& (32 : Int32)), (), rfl, e9, trivial⟩, hS.F ht⟩) hS.2.2 dJ6_numberOfTrailingZeros_0f7a4_16
  rw [hHe] at hgo
  exact hgo

theorem gcS_J6_numberOfLeadingZeros_0f7a4 {T0 : Cond} {own : String} {i : Nat} (h : Cond.methodLink own i yJ6_numberOfLeadingZeros_0f7a4 ∈ wsL_law) : GoodIn (T0 :: wsL_law) (va_wsS own i yJ6_numberOfLeadingZeros_0f7a4 wz_J6_numberOfLeadingZeros_0f7a4) := gS h (mB59 _ (List.mem_of_getElem? (i := 10) rfl)) (mB59 _ (List.mem_of_getElem? (i := 11) rfl)) (mB59 _ (List.mem_of_getElem? (i := 12) rfl))
theorem hdS_J6_numberOfLeadingZeros_0f7a4 : yJ6_numberOfLeadingZeros_0f7a4.cls ≠ "java/lang/invoke/MethodHandle" ∧ yJ6_numberOfLeadingZeros_0f7a4.cls ≠ "java/lang/invoke/VarHandle" ∧ (parseMethodDescriptor yJ6_numberOfLeadingZeros_0f7a4.desc).map (fun d => d.parameters.length) = some 1 := by decide +kernel
def wz_J13_numberOfLeadingZeros_95d88 : List Cond := .code yJ13_numberOfLeadingZeros_95d88 cJ13_numberOfLeadingZeros_95d88 3 (some .int) :: wsL_law
abbrev r_J13_numberOfLeadingZeros_95d88 : Room := { frames := 1, cells := 0, slots := 0, locals := 21 }
set_option maxHeartbeats 4000000 in
set_option maxRecDepth 100000 in
theorem c_J13_numberOfLeadingZeros_95d88 (l : Launch) (D : va_G) (K : Nat → ClassId) (F : Nat) (p0 : Int64) (res : Int32) (hf : f_J13_numberOfLeadingZeros_95d88 F p0 = some res) : Met l yJ13_numberOfLeadingZeros_95d88 wz_J13_numberOfLeadingZeros_95d88 r_J13_numberOfLeadingZeros_95d88 (va_Pc [.long p0] (PR D K (([] : va_W)))) (va_Qi (fun r (_ : Unit) => r = res) BN nOne) 0 0 nOne := by
  refine Met.ofW (cc := cJ13_numberOfLeadingZeros_95d88) (maxL := 3) (ret := (some .int)) (by decide) rfl ?_
  intro p e s m args below meth c s₁ B hml hv
  obtain ⟨hargs, hP, hK⟩ := hv
  have hx := B.exec
  have hb := B.bytes
  have hr := B.returns
  have hts := atoms_spec (ws := wz_J13_numberOfLeadingZeros_95d88) B.pre
  have htl : ∀ w ∈ wsL_law, w.before args s = true := fun w h => hts w (List.mem_cons_of_mem _ h)
  have hown : s.vm.findClass RJ13 = some m.cls := findClass_of_methodNamed B.named
  have hlocks := B.notSynchronized
  have hS : va_S nOne s.heap s.heap [] := va_S.rf
  suffices hgo : ∀ Q : State → Prop, Q = MQ below (va_Qi (fun r (_ : Unit) => r = res) BN nOne) args s 0 0 nOne → W p l e (headSpec wz_J13_numberOfLeadingZeros_95d88 r_J13_numberOfLeadingZeros_95d88).room s m args below meth c s.heap [] 0 0 Q (entryFrame m args 3) from hgo _ rfl
  intro Q hQ
  have hen : entryFrame m args 3 = entryFrame m (([.long p0] : List Value).toArray) 3 := by rw [hargs]
  have hl := lv_entry ([.long p0]) (n := 3) (Nat.le_of_ble_eq_true rfl)
  rw [hen, lg_entry_eq]
  generalize (lg_sl ([.long p0]) ++ List.replicate (3 - (lg_sl ([.long p0])).length) Slot.unset).toArray = ls at hl ⊢
  have hl : lv_has ls 3 [(0, .long p0)] := hl
  unfold f_J13_numberOfLeadingZeros_95d88 at hf
  obtain ⟨H, hHe⟩ : ∃ z, z = s.heap := ⟨_, rfl⟩
  obtain ⟨locs, hLe⟩ : ∃ z : List Loc, z = [] := ⟨_, rfl⟩
  rw [← hLe]
  have hS : va_S nOne s.heap H locs := by rw [hHe, hLe]; exact hS
  have hP : va_P D vwCl (([] : va_W)) H := by rw [hHe]; exact hP
  have hgo : W p l e (headSpec wz_J13_numberOfLeadingZeros_95d88 r_J13_numberOfLeadingZeros_95d88).room s m args below meth c H locs 0 0 Q (F0 m 0 ls []) := by
    refine lv_lload_n hx hb dJ13_numberOfLeadingZeros_95d88_0 rfl (lv_at hl 0 rfl) ?_
    refine lv_bipush (v := (32 : Int32)) hx hb dJ13_numberOfLeadingZeros_95d88_1 (by decide) ?_
    refine lv_lushr (v := (p0.toUInt64 >>> ((32 : Int32).toInt64.toUInt64 &&& Int64.toUInt64 63)).toInt64) hx hb dJ13_numberOfLeadingZeros_95d88_3 rfl ?_
    refine lv_topl (fun v1 ev1 => ?_)
    have hf := lz_s hf v1 ev1
    refine lv_l2i (v := v1.toInt32) hx hb dJ13_numberOfLeadingZeros_95d88_4 rfl ?_
    refine lv_istore_n (lv' := [(2, .int v1.toInt32), (0, .long p0)]) hx hb dJ13_numberOfLeadingZeros_95d88_5 rfl hl (by decide) rfl (fun ls hl => ?_)
    refine lv_iload_n hx hb dJ13_numberOfLeadingZeros_95d88_6 rfl (lv_at hl 0 rfl) ?_
    refine lv_if_ne (tgt := 21) hx hb dJ13_numberOfLeadingZeros_95d88_7 (by decide) (fun c2 => ?_) (fun c2 => ?_)
    · have hf := it_f hf c2
      refine lv_iload_n hx hb dJ13_numberOfLeadingZeros_95d88_21 rfl (lv_at hl 0 rfl) ?_
      obtain ⟨o3, go3, hf⟩ := bd_s hf
      refine ro_Si (As := [.int v1.toInt32]) (rest := []) ⟨hx, hb, hml, hown, hts⟩ (c_J6_numberOfLeadingZeros_0f7a4 l D K F v1.toInt32 o3 go3) (va_cwS 1 hts (gcS_J6_numberOfLeadingZeros_0f7a4 (mB59 _ (List.mem_of_getElem? (i := 9) rfl))) rfl rfl rfl hdS_J6_numberOfLeadingZeros_0f7a4 ⟨Nat.le_of_ble_eq_true rfl, Nat.le_of_ble_eq_true rfl⟩) hK hP hS va_Pnil rfl hl.1 rfl (Nat.le_of_ble_eq_true rfl) dJ13_numberOfLeadingZeros_95d88_22 ⟨Nat.zero_le _, Nat.zero_le _⟩ (fun H locs hP hS => ?_)
      have e9 := Option.some.inj hf
      rw [hQ]
      exact W.iret (v := o3) hx hb hr (fun t ht hW => ⟨⟨o3, (), rfl, e9, trivial⟩, hS.F ht⟩) hS.2.2 dJ13_numberOfLeadingZeros_95d88_25
    · have hf := it_t hf c2
      refine lv_bipush (v := (32 : Int32)) hx hb dJ13_numberOfLeadingZeros_95d88_10 (by decide) ?_
      refine lv_lload_n hx hb dJ13_numberOfLeadingZeros_95d88_12 rfl (lv_at hl 1 rfl) ?_
      refine lv_l2i (v := p0.toInt32) hx hb dJ13_numberOfLeadingZeros_95d88_13 rfl ?_
      obtain ⟨o4, go4, hf⟩ := bd_s hf
      refine ro_Si (As := [.int p0.toInt32]) (rest := [.int (32 : Int32)]) ⟨hx, hb, hml, hown, hts⟩ (c_J6_numberOfLeadingZeros_0f7a4 l D K F p0.toInt32 o4 go4) (va_cwS 1 hts (gcS_J6_numberOfLeadingZeros_0f7a4 (mB59 _ (List.mem_of_getElem? (i := 9) rfl))) rfl rfl rfl hdS_J6_numberOfLeadingZeros_0f7a4 ⟨Nat.le_of_ble_eq_true rfl, Nat.le_of_ble_eq_true rfl⟩) hK hP hS va_Pnil rfl hl.1 rfl (Nat.le_of_ble_eq_true rfl) dJ13_numberOfLeadingZeros_95d88_14 ⟨Nat.zero_le _, Nat.zero_le _⟩ (fun H locs hP hS => ?_)
      refine lv_iadd hx hb dJ13_numberOfLeadingZeros_95d88_17 ?_
      refine lv_goto (tgt := 25) hx hb dJ13_numberOfLeadingZeros_95d88_18 (by decide) ?_
      have e9 := Option.some.inj hf
      rw [hQ]
      exact W.iret (v := ((32 : Int32) + o4)) hx hb hr (fun t ht hW => ⟨⟨((32 : Int32) + o4), (), rfl, e9, trivial⟩, hS.F ht⟩) hS.2.2 dJ13_numberOfLeadingZeros_95d88_25
  rw [hHe] at hgo
  exact hgo

theorem gcS_J6_numberOfTrailingZeros_0f7a4 {T0 : Cond} {own : String} {i : Nat} (h : Cond.methodLink own i yJ6_numberOfTrailingZeros_0f7a4 ∈ wsL_law) : GoodIn (T0 :: wsL_law) (va_wsS own i yJ6_numberOfTrailingZeros_0f7a4 wz_J6_numberOfTrailingZeros_0f7a4) := gS h (mB59 _ (List.mem_of_getElem? (i := 18) rfl)) (mB59 _ (List.mem_of_getElem? (i := 11) rfl)) (mB59 _ (List.mem_of_getElem? (i := 19) rfl))
theorem hdS_J6_numberOfTrailingZeros_0f7a4 : yJ6_numberOfTrailingZeros_0f7a4.cls ≠ "java/lang/invoke/MethodHandle" ∧ yJ6_numberOfTrailingZeros_0f7a4.cls ≠ "java/lang/invoke/VarHandle" ∧ (parseMethodDescriptor yJ6_numberOfTrailingZeros_0f7a4.desc).map (fun d => d.parameters.length) = some 1 := by decide +kernel
def wz_J13_numberOfTrailingZeros_95d88 : List Cond := .code yJ13_numberOfTrailingZeros_95d88 cJ13_numberOfTrailingZeros_95d88 3 (some .int) :: wsL_law
abbrev r_J13_numberOfTrailingZeros_95d88 : Room := { frames := 1, cells := 0, slots := 0, locals := 21 }
set_option maxHeartbeats 4000000 in
set_option maxRecDepth 100000 in
theorem c_J13_numberOfTrailingZeros_95d88 (l : Launch) (D : va_G) (K : Nat → ClassId) (F : Nat) (p0 : Int64) (res : Int32) (hf : f_J13_numberOfTrailingZeros_95d88 F p0 = some res) : Met l yJ13_numberOfTrailingZeros_95d88 wz_J13_numberOfTrailingZeros_95d88 r_J13_numberOfTrailingZeros_95d88 (va_Pc [.long p0] (PR D K (([] : va_W)))) (va_Qi (fun r (_ : Unit) => r = res) BN nOne) 0 0 nOne := by
  refine Met.ofW (cc := cJ13_numberOfTrailingZeros_95d88) (maxL := 3) (ret := (some .int)) (by decide) rfl ?_
  intro p e s m args below meth c s₁ B hml hv
  obtain ⟨hargs, hP, hK⟩ := hv
  have hx := B.exec
  have hb := B.bytes
  have hr := B.returns
  have hts := atoms_spec (ws := wz_J13_numberOfTrailingZeros_95d88) B.pre
  have htl : ∀ w ∈ wsL_law, w.before args s = true := fun w h => hts w (List.mem_cons_of_mem _ h)
  have hown : s.vm.findClass RJ13 = some m.cls := findClass_of_methodNamed B.named
  have hlocks := B.notSynchronized
  have hS : va_S nOne s.heap s.heap [] := va_S.rf
  suffices hgo : ∀ Q : State → Prop, Q = MQ below (va_Qi (fun r (_ : Unit) => r = res) BN nOne) args s 0 0 nOne → W p l e (headSpec wz_J13_numberOfTrailingZeros_95d88 r_J13_numberOfTrailingZeros_95d88).room s m args below meth c s.heap [] 0 0 Q (entryFrame m args 3) from hgo _ rfl
  intro Q hQ
  have hen : entryFrame m args 3 = entryFrame m (([.long p0] : List Value).toArray) 3 := by rw [hargs]
  have hl := lv_entry ([.long p0]) (n := 3) (Nat.le_of_ble_eq_true rfl)
  rw [hen, lg_entry_eq]
  generalize (lg_sl ([.long p0]) ++ List.replicate (3 - (lg_sl ([.long p0])).length) Slot.unset).toArray = ls at hl ⊢
  have hl : lv_has ls 3 [(0, .long p0)] := hl
  unfold f_J13_numberOfTrailingZeros_95d88 at hf
  obtain ⟨H, hHe⟩ : ∃ z, z = s.heap := ⟨_, rfl⟩
  obtain ⟨locs, hLe⟩ : ∃ z : List Loc, z = [] := ⟨_, rfl⟩
  rw [← hLe]
  have hS : va_S nOne s.heap H locs := by rw [hHe, hLe]; exact hS
  have hP : va_P D vwCl (([] : va_W)) H := by rw [hHe]; exact hP
  have hgo : W p l e (headSpec wz_J13_numberOfTrailingZeros_95d88 r_J13_numberOfTrailingZeros_95d88).room s m args below meth c H locs 0 0 Q (F0 m 0 ls []) := by
    refine lv_lload_n hx hb dJ13_numberOfTrailingZeros_95d88_0 rfl (lv_at hl 0 rfl) ?_
    refine lv_l2i (v := p0.toInt32) hx hb dJ13_numberOfTrailingZeros_95d88_1 rfl ?_
    refine lv_istore_n (lv' := [(2, .int p0.toInt32), (0, .long p0)]) hx hb dJ13_numberOfTrailingZeros_95d88_2 rfl hl (by decide) rfl (fun ls hl => ?_)
    refine lv_iload_n hx hb dJ13_numberOfTrailingZeros_95d88_3 rfl (lv_at hl 0 rfl) ?_
    refine lv_if_ne (tgt := 21) hx hb dJ13_numberOfTrailingZeros_95d88_4 (by decide) (fun c1 => ?_) (fun c1 => ?_)
    · have hf := it_f hf c1
      refine lv_iload_n hx hb dJ13_numberOfTrailingZeros_95d88_21 rfl (lv_at hl 0 rfl) ?_
      obtain ⟨o2, go2, hf⟩ := bd_s hf
      refine ro_Si (As := [.int p0.toInt32]) (rest := []) ⟨hx, hb, hml, hown, hts⟩ (c_J6_numberOfTrailingZeros_0f7a4 l D K F p0.toInt32 o2 go2) (va_cwS 1 hts (gcS_J6_numberOfTrailingZeros_0f7a4 (mB59 _ (List.mem_of_getElem? (i := 17) rfl))) rfl rfl rfl hdS_J6_numberOfTrailingZeros_0f7a4 ⟨Nat.le_of_ble_eq_true rfl, Nat.le_of_ble_eq_true rfl⟩) hK hP hS va_Pnil rfl hl.1 rfl (Nat.le_of_ble_eq_true rfl) dJ13_numberOfTrailingZeros_95d88_22 ⟨Nat.zero_le _, Nat.zero_le _⟩ (fun H locs hP hS => ?_)
      have e9 := Option.some.inj hf
      rw [hQ]
      exact W.iret (v := o2) hx hb hr (fun t ht hW => ⟨⟨o2, (), rfl, e9, trivial⟩, hS.F ht⟩) hS.2.2 dJ13_numberOfTrailingZeros_95d88_25
    · have hf := it_t hf c1
      refine lv_bipush (v := (32 : Int32)) hx hb dJ13_numberOfTrailingZeros_95d88_7 (by decide) ?_
      refine lv_lload_n hx hb dJ13_numberOfTrailingZeros_95d88_9 rfl (lv_at hl 1 rfl) ?_
      refine lv_bipush (v := (32 : Int32)) hx hb dJ13_numberOfTrailingZeros_95d88_10 (by decide) ?_
      refine lv_lushr (v := (p0.toUInt64 >>> ((32 : Int32).toInt64.toUInt64 &&& Int64.toUInt64 63)).toInt64) hx hb dJ13_numberOfTrailingZeros_95d88_12 rfl ?_
      refine lv_topl (fun v3 ev3 => ?_)
      have hf := lz_s hf v3 ev3
      refine lv_l2i (v := v3.toInt32) hx hb dJ13_numberOfTrailingZeros_95d88_13 rfl ?_
      obtain ⟨o4, go4, hf⟩ := bd_s hf
      refine ro_Si (As := [.int v3.toInt32]) (rest := [.int (32 : Int32)]) ⟨hx, hb, hml, hown, hts⟩ (c_J6_numberOfTrailingZeros_0f7a4 l D K F v3.toInt32 o4 go4) (va_cwS 1 hts (gcS_J6_numberOfTrailingZeros_0f7a4 (mB59 _ (List.mem_of_getElem? (i := 17) rfl))) rfl rfl rfl hdS_J6_numberOfTrailingZeros_0f7a4 ⟨Nat.le_of_ble_eq_true rfl, Nat.le_of_ble_eq_true rfl⟩) hK hP hS va_Pnil rfl hl.1 rfl (Nat.le_of_ble_eq_true rfl) dJ13_numberOfTrailingZeros_95d88_14 ⟨Nat.zero_le _, Nat.zero_le _⟩ (fun H locs hP hS => ?_)
      refine lv_iadd hx hb dJ13_numberOfTrailingZeros_95d88_17 ?_
      refine lv_goto (tgt := 25) hx hb dJ13_numberOfTrailingZeros_95d88_18 (by decide) ?_
      have e9 := Option.some.inj hf
      rw [hQ]
      exact W.iret (v := ((32 : Int32) + o4)) hx hb hr (fun t ht hW => ⟨⟨((32 : Int32) + o4), (), rfl, e9, trivial⟩, hS.F ht⟩) hS.2.2 dJ13_numberOfTrailingZeros_95d88_25
  rw [hHe] at hgo
  exact hgo
