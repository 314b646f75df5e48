def wz_X5_stopAt : List Cond := .code yX5_stopAt cX5_stopAt 10 none :: wsL_law
abbrev r_X5_stopAt : Room := { frames := 1, cells := 0, slots := 0, locals := 21 }
set_option maxHeartbeats 4000000 in
set_option maxRecDepth 100000 in
theorem c_X5_stopAt (l : Launch) (D : va_G) (K : Nat → ClassId) (F : Nat) (hNe : Nat → Nat) (hNc : Nat → Nat) (hRo : Nat → Nat) (sz : Nat) (sNe : MS) (sNc : MS) (sRo : MS) (p2 : Int32) (p3 : Int32) (res : MS) (hf : f_X5_stopAt F sNc sRo p2 p3 sNe = some res) : Met l yX5_stopAt wz_X5_stopAt r_X5_stopAt (va_Pc [.ref (hNe 99), .ref (hRo 99), .int p2, .int p3] (PW D K (wNe K hNe hNc sNe ++ wNc K hNc sNc ++ wRo K hRo sRo) sz)) (va_Qv (fun u => u = res) (fun u t => BW D K (va_A (wNe K hNe hNc sNe ++ wNc K hNc sNc ++ wRo K hRo sRo) sz) (wNe K hNe hNc u ++ wNc K hNc sNc ++ wRo K hRo sRo) t) (va_A (wNe K hNe hNc sNe ++ wNc K hNc sNc ++ wRo K hRo sRo) sz)) 0 0 (va_A (wNe K hNe hNc sNe ++ wNc K hNc sNc ++ wRo K hRo sRo) sz) := by
  refine Met.ofW (cc := cX5_stopAt) (maxL := 10) (ret := none) (by decide) rfl ?_
  intro p e s m args below meth c s₁ B hml hv
  obtain ⟨hargs, hsz, hP, hK, hD0⟩ := hv
  have hx := B.exec
  have hb := B.bytes
  have hr := B.returns
  have hts := atoms_spec (ws := wz_X5_stopAt) B.pre
  have htl : ∀ w ∈ wsL_law, w.before args s = true := fun w h => hts w (List.mem_cons_of_mem _ h)
  have hown : s.vm.findClass RX5 = some m.cls := findClass_of_methodNamed B.named
  have hlocks := B.notSynchronized
  subst hsz
  have hD := hD0.self (sz := s.heap.size)
  generalize hAe : va_A (wNe K hNe hNc sNe ++ wNc K hNc sNc ++ wRo K hRo sRo) s.heap.size = A at hD ⊢
  have hA : ∀ q : Nat, s.heap.size ≤ q → A q := fun q h => by rw [← hAe]; exact Or.inr h
  have hS : va_S A s.heap s.heap [] := va_S.rf
  have iX5 : ∀ w ∈ wsX50, w ∈ wz_X5_stopAt := fun w h => List.mem_cons_of_mem _ (inlX5 w h)
  have iX9 : ∀ w ∈ wsX90, w ∈ wz_X5_stopAt := fun w h => List.mem_cons_of_mem _ (inlX9 w h)
  suffices hgo : ∀ Q : State → Prop, Q = MQ below (va_Qv (fun u => u = res) (fun u t => BW D K A (wNe K hNe hNc u ++ wNc K hNc sNc ++ wRo K hRo sRo) t) A) args s 0 0 A → W p l e (headSpec wz_X5_stopAt r_X5_stopAt).room s m args below meth c s.heap [] 0 0 Q (entryFrame m args 10) from hgo _ rfl
  intro Q hQ
  have w151 : ∀ (k64 : Int32 → Int32 → Int32 → Int32 → Int32 → MS → Option MS), (∀ (x5 : Int32), ∀ (x6 : Int32), ∀ (x7 : Int32), ∀ (x8 : Int32), ∀ (x9 : Int32), ∀ (sNe : MS), ∀ (H : Heap) (locs : List Loc) (ls : Array Slot), k64 x5 x6 x7 x8 x9 sNe = some res → va_P D vwCl (wNe K hNe hNc sNe ++ wNc K hNc sNc ++ wRo K hRo sRo) H → va_D A (wNe K hNe hNc sNe ++ wNc K hNc sNc ++ wRo K hRo sRo) → va_S A s.heap H locs → lv_has ls 10 [(0, .ref (hNe 99)), (1, .ref (hRo 99)), (4, .ref (hNc p2.toNatClampNeg)), (5, .int x5), (6, .int x6), (7, .int x7), (8, .int x8), (9, .int x9)] → W p l e (headSpec wz_X5_stopAt r_X5_stopAt).room s m args below meth c H locs 0 0 Q (F0 m 64 ls [])) → ∀ (x5 : Int32), ∀ (x6 : Int32), ∀ (x7 : Int32), ∀ (x8 : Int32), ∀ (x9 : Int32), ∀ (sNe : MS), ∀ (H : Heap) (locs : List Loc) (ls : Array Slot), f_X5_stopAt_151 F sNc sRo p2 p3 k64 x5 x6 x7 x8 x9 sNe = some res → va_P D vwCl (wNe K hNe hNc sNe ++ wNc K hNc sNc ++ wRo K hRo sRo) H → va_D A (wNe K hNe hNc sNe ++ wNc K hNc sNc ++ wRo K hRo sRo) → va_S A s.heap H locs → lv_has ls 10 [(0, .ref (hNe 99)), (1, .ref (hRo 99)), (4, .ref (hNc p2.toNatClampNeg)), (5, .int x5), (6, .int x6), (7, .int x7), (8, .int x8), (9, .int x9)] → W p l e (headSpec wz_X5_stopAt r_X5_stopAt).room s m args below meth c H locs 0 0 Q (F0 m 151 ls []) := by
    intro k64 hk64 x5 x6 x7 x8 x9 sNe H locs ls hf hP hD hS hl
    unfold f_X5_stopAt_151 at hf
    obtain ⟨g32, hf⟩ := gd_s hf
    obtain ⟨v33, ev33⟩ : ∃ z : Int32, z = x9 + (1 : Int32) := ⟨_, rfl⟩
    have hf := lz_s hf v33 ev33
    refine lv_iinc (v := v33) (lv' := [(9, .int v33), (0, .ref (hNe 99)), (1, .ref (hRo 99)), (4, .ref (hNc p2.toNatClampNeg)), (5, .int x5), (6, .int x6), (7, .int x7), (8, .int x8)]) hx hb dX5_stopAt_151 hl (k := 7) rfl (by rw [ev33]; rfl) (by decide) rfl (fun ls hl => ?_)
    refine lv_goto (tgt := 64) hx hb dX5_stopAt_154 (by decide) ?_
    exact hk64 x5 x6 x7 x8 v33 sNe H locs ls hf hP hD hS (lv_sub hl [1, 2, 3, 4, 5, 6, 7, 0] rfl)
  have w123 : ∀ (k64 : Int32 → Int32 → Int32 → Int32 → Int32 → MS → Option MS), (∀ (x5 : Int32), ∀ (x6 : Int32), ∀ (x7 : Int32), ∀ (x8 : Int32), ∀ (x9 : Int32), ∀ (sNe : MS), ∀ (H : Heap) (locs : List Loc) (ls : Array Slot), k64 x5 x6 x7 x8 x9 sNe = some res → va_P D vwCl (wNe K hNe hNc sNe ++ wNc K hNc sNc ++ wRo K hRo sRo) H → va_D A (wNe K hNe hNc sNe ++ wNc K hNc sNc ++ wRo K hRo sRo) → va_S A s.heap H locs → lv_has ls 10 [(0, .ref (hNe 99)), (1, .ref (hRo 99)), (4, .ref (hNc p2.toNatClampNeg)), (5, .int x5), (6, .int x6), (7, .int x7), (8, .int x8), (9, .int x9)] → W p l e (headSpec wz_X5_stopAt r_X5_stopAt).room s m args below meth c H locs 0 0 Q (F0 m 64 ls [])) → ∀ (x5 : Int32), ∀ (x6 : Int32), ∀ (x7 : Int32), ∀ (x8 : Int32), ∀ (x9 : Int32), ∀ (sNe : MS), ∀ (H : Heap) (locs : List Loc) (ls : Array Slot), f_X5_stopAt_123 F sNc sRo p2 p3 k64 x5 x6 x7 x8 x9 sNe = some res → va_P D vwCl (wNe K hNe hNc sNe ++ wNc K hNc sNc ++ wRo K hRo sRo) H → va_D A (wNe K hNe hNc sNe ++ wNc K hNc sNc ++ wRo K hRo sRo) → va_S A s.heap H locs → lv_has ls 10 [(0, .ref (hNe 99)), (1, .ref (hRo 99)), (4, .ref (hNc p2.toNatClampNeg)), (5, .int x5), (6, .int x6), (7, .int x7), (8, .int x8), (9, .int x9)] → W p l e (headSpec wz_X5_stopAt r_X5_stopAt).room s m args below meth c H locs 0 0 Q (F0 m 123 ls []) := by
    intro k64 hk64 x5 x6 x7 x8 x9 sNe H locs ls hf hP hD hS hl
    unfold f_X5_stopAt_123 at hf
    obtain ⟨g25, hf⟩ := gd_s hf
    refine lv_aload hx hb dX5_stopAt_123 (lv_at hl 2 rfl) ?_
    refine lv_iload hx hb dX5_stopAt_125 (lv_at hl 7 rfl) ?_
    obtain ⟨g26, hf⟩ := gd_s hf
    refine va_iald hx hb hK hP (4 + p2.toNatClampNeg) 0 (f := sNc.2.2.1 p2.toNatClampNeg) (rwl (rwr (n := 4) rfl (wNc_r p2.toNatClampNeg (vpb_lt g25)))) rfl (vpb_in g26) dX5_stopAt_127 ?_
    refine lv_topi (fun v27 ev27 => ?_)
    have hf := lz_s hf v27 ev27
    refine lv_ldc (v := (268435456 : Int32)) hx hb hown (htl _ (mB48 _ (List.mem_of_getElem? (i := 21) rfl))) dX5_stopAt_128 ?_
    refine lv_icmp_ge (tgt := 151) hx hb dX5_stopAt_130 (by decide) (fun c28 => ?_) (fun c28 => ?_)
    · have hf := it_t hf c28
      exact w151 k64 hk64 x5 x6 x7 x8 x9 sNe H locs ls hf hP hD hS (lv_sub hl [0, 1, 2, 3, 4, 5, 6, 7] rfl)
    · have hf := it_f hf c28
      refine lv_iload hx hb dX5_stopAt_133 (lv_at hl 6 rfl) ?_
      refine lv_aload hx hb dX5_stopAt_135 (lv_at hl 2 rfl) ?_
      refine lv_iload hx hb dX5_stopAt_137 (lv_at hl 7 rfl) ?_
      obtain ⟨g29, hf⟩ := gd_s hf
      refine va_iald hx hb hK hP (4 + p2.toNatClampNeg) 0 (f := sNc.2.2.1 p2.toNatClampNeg) (rwl (rwr (n := 4) rfl (wNc_r p2.toNatClampNeg (vpb_lt g25)))) rfl (vpb_in g29) dX5_stopAt_139 ?_
      refine lv_topi (fun v30 ev30 => ?_)
      have hf := lz_s hf v30 ev30
      refine lv_iload hx hb dX5_stopAt_140 (lv_at hl 4 rfl) ?_
      refine lv_iload hx hb dX5_stopAt_142 (lv_at hl 7 rfl) ?_
      refine lv_imul hx hb dX5_stopAt_144 ?_
      refine lv_isub hx hb dX5_stopAt_145 ?_
      refine va_mmin hx hb (hml.trans hl.1.symm) hown (htl _ (mB49 _ (List.mem_of_getElem? (i := 0) rfl))) (htl _ (mB49 _ (List.mem_of_getElem? (i := 1) rfl))) (htl _ (mB9 _ (List.mem_of_getElem? (i := 9) rfl))) (htl _ (mB49 _ (List.mem_of_getElem? (i := 2) rfl))) (Nat.le_of_ble_eq_true rfl) (Nat.le_of_ble_eq_true rfl) (Nat.zero_le _) (Nat.zero_le _) dX5_stopAt_146 ?_
      refine lv_topi (fun v31 ev31 => ?_)
      have hf := lz_s hf v31 ev31
      refine lv_istore (lv' := [(8, .int v31), (0, .ref (hNe 99)), (1, .ref (hRo 99)), (4, .ref (hNc p2.toNatClampNeg)), (5, .int x5), (6, .int x6), (7, .int x7), (9, .int x9)]) hx hb dX5_stopAt_149 hl (by decide) rfl (fun ls hl => ?_)
      exact w151 k64 hk64 x5 x6 x7 v31 x9 sNe H locs ls hf hP hD hS (lv_sub hl [1, 2, 3, 4, 5, 6, 0, 7] rfl)
  have w64 : ∀ (n : Nat), ∀ (x5 : Int32), ∀ (x6 : Int32), ∀ (x7 : Int32), ∀ (x8 : Int32), ∀ (x9 : Int32), ∀ (sNe : MS), ∀ (H : Heap) (locs : List Loc) (ls : Array Slot), f_X5_stopAt_64 F sNc sRo p2 p3 n x5 x6 x7 x8 x9 sNe = some res → va_P D vwCl (wNe K hNe hNc sNe ++ wNc K hNc sNc ++ wRo K hRo sRo) H → va_D A (wNe K hNe hNc sNe ++ wNc K hNc sNc ++ wRo K hRo sRo) → va_S A s.heap H locs → lv_has ls 10 [(0, .ref (hNe 99)), (1, .ref (hRo 99)), (4, .ref (hNc p2.toNatClampNeg)), (5, .int x5), (6, .int x6), (7, .int x7), (8, .int x8), (9, .int x9)] → W p l e (headSpec wz_X5_stopAt r_X5_stopAt).room s m args below meth c H locs 0 0 Q (F0 m 64 ls []) := by
    intro n
    induction n with
    | zero =>
      intro x5 x6 x7 x8 x9 sNe H locs ls hf
      exact absurd (show none = some res from hf) (fun h => nomatch h)
    | succ n ih =>
      intro x5 x6 x7 x8 x9 sNe H locs ls hf hP hD hS hl
      rw [f_X5_stopAt_64] at hf
      obtain ⟨g12, hf⟩ := gd_s hf
      refine lv_iload hx hb dX5_stopAt_64 (lv_at hl 7 rfl) ?_
      refine lv_aload_n hx hb dX5_stopAt_66 rfl (lv_at hl 1 rfl) ?_
      refine va_get (D := D) (ci := 8) (v := .int (sRo.1 0)) (C := RX9) (T := TX9) (N := 19) hx hb hts iX9 hown hK hP ((4 + 9) + 0) (rwr (lnA ln_Ne ln_Nc) o_Ro) rfl 0 (by decide) (htl _ (mB48 _ (List.mem_of_getElem? (i := 23) rfl))) (fun _ h9 => h9) rfl dX5_stopAt_67 ?_
      refine lv_icmp_gt (tgt := 157) hx hb dX5_stopAt_70 (by decide) (fun c13 => ?_) (fun c13 => ?_)
      · have hf := it_t hf c13
        have e9 := Option.some.inj hf
        rw [hQ]
        exact W.vret hx hb hr (fun t ht hW => ⟨⟨sNe, rfl, e9, ⟨by rw [ht]; exact hP, va_K.moved hW.alike hK, hD⟩⟩, hS.F ht⟩) hS.2.2 dX5_stopAt_157
      · have hf := it_f hf c13
        refine lv_aload_n hx hb dX5_stopAt_73 rfl (lv_at hl 0 rfl) ?_
        refine va_get (D := D) (ci := 4) (v := .ref (hNe 1)) (C := RX5) (T := TX5) (N := 3) hx hb hts iX5 hown hK hP 0 (rwl (rwl o_Ne)) rfl 1 (by decide) (htl _ (mB5 _ (List.mem_of_getElem? (i := 0) rfl))) (fun _ h9 => h9) rfl dX5_stopAt_74 ?_
        refine lv_iload hx hb dX5_stopAt_77 (lv_at hl 7 rfl) ?_
        refine lv_aload hx hb dX5_stopAt_79 (lv_at hl 2 rfl) ?_
        refine lv_iload hx hb dX5_stopAt_81 (lv_at hl 7 rfl) ?_
        obtain ⟨g14, hf⟩ := gd_s hf
        refine va_iald hx hb hK hP (4 + p2.toNatClampNeg) 0 (f := sNc.2.2.1 p2.toNatClampNeg) (rwl (rwr (n := 4) rfl (wNc_r p2.toNatClampNeg (vpb_lt g12)))) rfl (vpb_in g14) dX5_stopAt_83 ?_
        refine lv_topi (fun v15 ev15 => ?_)
        have hf := lz_s hf v15 ev15
        obtain ⟨g16, hf⟩ := gd_s hf
        refine va_iast hx hb hK hP hD hS 2 0 (f := sNe.2.2.1 1) (rwl (rwl a_Ne_1)) rfl (vpb_in g16) dX5_stopAt_84 (fun H locs hP hD hS => ?_)
        have hP := cvP (stl (stl sa_Ne_1 (rlt a_Ne_1)) (rlt (rwl a_Ne_1))) hP
        have hD := cvD (stl (stl sa_Ne_1 (rlt a_Ne_1)) (rlt (rwl a_Ne_1))) hD
        obtain ⟨s17, es17⟩ : ∃ z, z = sA sNe 1 x9.toNatClampNeg v15 := ⟨_, rfl⟩
        have hP : va_P D vwCl (wNe K hNe hNc s17 ++ wNc K hNc sNc ++ wRo K hRo sRo) H := by rw [es17]; exact hP
        have hD : va_D A (wNe K hNe hNc s17 ++ wNc K hNc sNc ++ wRo K hRo sRo) := by rw [es17]; exact hD
        have hf := lz_s hf s17 es17
        refine lv_iload hx hb dX5_stopAt_85 (lv_at hl 3 rfl) ?_
        refine lv_if_eq (tgt := 123) hx hb dX5_stopAt_87 (by decide) (fun c18 => ?_) (fun c18 => ?_)
        · have hf := it_t hf c18
          exact w123 (f_X5_stopAt_64 F sNc sRo p2 p3 n) ih x5 x6 x7 x8 x9 s17 H locs ls hf hP hD hS (lv_sub hl [0, 1, 2, 3, 4, 5, 6, 7] rfl)
        · have hf := it_f hf c18
          refine lv_iload hx hb dX5_stopAt_90 (lv_at hl 6 rfl) ?_
          refine lv_ldc (v := (268435456 : Int32)) hx hb hown (htl _ (mB48 _ (List.mem_of_getElem? (i := 21) rfl))) dX5_stopAt_92 ?_
          refine lv_icmp_ge (tgt := 123) hx hb dX5_stopAt_94 (by decide) (fun c19 => ?_) (fun c19 => ?_)
          · have hf := it_t hf c19
            exact w123 (f_X5_stopAt_64 F sNc sRo p2 p3 n) ih x5 x6 x7 x8 x9 s17 H locs ls hf hP hD hS (lv_sub hl [0, 1, 2, 3, 4, 5, 6, 7] rfl)
          · have hf := it_f hf c19
            refine lv_aload_n hx hb dX5_stopAt_97 rfl (lv_at hl 0 rfl) ?_
            refine va_get (D := D) (ci := 4) (v := .ref (hNe 1)) (C := RX5) (T := TX5) (N := 3) hx hb hts iX5 hown hK hP 0 (rwl (rwl o_Ne)) rfl 1 (by decide) (htl _ (mB5 _ (List.mem_of_getElem? (i := 0) rfl))) (fun _ h9 => h9) rfl dX5_stopAt_98 ?_
            refine lv_iload hx hb dX5_stopAt_101 (lv_at hl 7 rfl) ?_
            refine lv_aload hx hb dX5_stopAt_103 (lv_at hl 2 rfl) ?_
            refine lv_iload hx hb dX5_stopAt_105 (lv_at hl 7 rfl) ?_
            obtain ⟨g20, hf⟩ := gd_s hf
            refine va_iald hx hb hK hP (4 + p2.toNatClampNeg) 0 (f := sNc.2.2.1 p2.toNatClampNeg) (rwl (rwr (n := 4) rfl (wNc_r p2.toNatClampNeg (vpb_lt g12)))) rfl (vpb_in g20) dX5_stopAt_107 ?_
            refine lv_topi (fun v21 ev21 => ?_)
            have hf := lz_s hf v21 ev21
            refine lv_iload hx hb dX5_stopAt_108 (lv_at hl 6 rfl) ?_
            refine lv_iload hx hb dX5_stopAt_110 (lv_at hl 4 rfl) ?_
            refine lv_iload hx hb dX5_stopAt_112 (lv_at hl 7 rfl) ?_
            refine lv_imul hx hb dX5_stopAt_114 ?_
            refine lv_iadd hx hb dX5_stopAt_115 ?_
            refine lv_iload hx hb dX5_stopAt_116 (lv_at hl 5 rfl) ?_
            refine lv_iadd hx hb dX5_stopAt_118 ?_
            refine va_mmin hx hb (hml.trans hl.1.symm) hown (htl _ (mB49 _ (List.mem_of_getElem? (i := 0) rfl))) (htl _ (mB49 _ (List.mem_of_getElem? (i := 1) rfl))) (htl _ (mB9 _ (List.mem_of_getElem? (i := 9) rfl))) (htl _ (mB49 _ (List.mem_of_getElem? (i := 2) rfl))) (Nat.le_of_ble_eq_true rfl) (Nat.le_of_ble_eq_true rfl) (Nat.zero_le _) (Nat.zero_le _) dX5_stopAt_119 ?_
            refine lv_topi (fun v22 ev22 => ?_)
            have hf := lz_s hf v22 ev22
            obtain ⟨g23, hf⟩ := gd_s hf
            refine va_iast hx hb hK hP hD hS 2 0 (f := s17.2.2.1 1) (rwl (rwl a_Ne_1)) rfl (vpb_in g23) dX5_stopAt_122 (fun H locs hP hD hS => ?_)
            have hP := cvP (stl (stl sa_Ne_1 (rlt a_Ne_1)) (rlt (rwl a_Ne_1))) hP
            have hD := cvD (stl (stl sa_Ne_1 (rlt a_Ne_1)) (rlt (rwl a_Ne_1))) hD
            obtain ⟨s24, es24⟩ : ∃ z, z = sA s17 1 x9.toNatClampNeg v22 := ⟨_, rfl⟩
            have hP : va_P D vwCl (wNe K hNe hNc s24 ++ wNc K hNc sNc ++ wRo K hRo sRo) H := by rw [es24]; exact hP
            have hD : va_D A (wNe K hNe hNc s24 ++ wNc K hNc sNc ++ wRo K hRo sRo) := by rw [es24]; exact hD
            have hf := lz_s hf s24 es24
            exact w123 (f_X5_stopAt_64 F sNc sRo p2 p3 n) ih x5 x6 x7 x8 x9 s24 H locs ls hf hP hD hS (lv_sub hl [0, 1, 2, 3, 4, 5, 6, 7] rfl)
  have w55 : ∀ (x5 : Int32), ∀ (x6 : Int32), ∀ (y0 : Int32), ∀ (sNe : MS), ∀ (H : Heap) (locs : List Loc) (ls : Array Slot), f_X5_stopAt_55 F sNc sRo p2 p3 x5 x6 y0 sNe = some res → va_P D vwCl (wNe K hNe hNc sNe ++ wNc K hNc sNc ++ wRo K hRo sRo) H → va_D A (wNe K hNe hNc sNe ++ wNc K hNc sNc ++ wRo K hRo sRo) → va_S A s.heap H locs → lv_has ls 10 [(0, .ref (hNe 99)), (1, .ref (hRo 99)), (4, .ref (hNc p2.toNatClampNeg)), (5, .int x5), (6, .int x6)] → W p l e (headSpec wz_X5_stopAt r_X5_stopAt).room s m args below meth c H locs 0 0 Q (F0 m 55 ls [.int y0]) := by
    intro x5 x6 y0 sNe H locs ls hf hP hD hS hl
    unfold f_X5_stopAt_55 at hf
    obtain ⟨g11, hf⟩ := gd_s hf
    refine lv_istore (lv' := [(7, .int y0), (0, .ref (hNe 99)), (1, .ref (hRo 99)), (4, .ref (hNc p2.toNatClampNeg)), (5, .int x5), (6, .int x6)]) hx hb dX5_stopAt_55 hl (by decide) rfl (fun ls hl => ?_)
    refine lv_ldc (v := (268435456 : Int32)) hx hb hown (htl _ (mB48 _ (List.mem_of_getElem? (i := 21) rfl))) dX5_stopAt_57 ?_
    refine lv_istore (lv' := [(8, .int (268435456 : Int32)), (7, .int y0), (0, .ref (hNe 99)), (1, .ref (hRo 99)), (4, .ref (hNc p2.toNatClampNeg)), (5, .int x5), (6, .int x6)]) hx hb dX5_stopAt_59 hl (by decide) rfl (fun ls hl => ?_)
    refine lv_iconst (v := (0 : Int32)) hx hb dX5_stopAt_61 (by decide) ?_
    refine lv_istore (lv' := [(9, .int (0 : Int32)), (8, .int (268435456 : Int32)), (7, .int y0), (0, .ref (hNe 99)), (1, .ref (hRo 99)), (4, .ref (hNc p2.toNatClampNeg)), (5, .int x5), (6, .int x6)]) hx hb dX5_stopAt_62 hl (by decide) rfl (fun ls hl => ?_)
    exact w64 F x5 x6 y0 (268435456 : Int32) (0 : Int32) sNe H locs ls hf hP hD hS (lv_sub hl [3, 4, 5, 6, 7, 2, 1, 0] rfl)
  have w38 : ∀ (x5 : Int32), ∀ (y0 : Int32), ∀ (sNe : MS), ∀ (H : Heap) (locs : List Loc) (ls : Array Slot), f_X5_stopAt_38 F sNc sRo p2 p3 x5 y0 sNe = some res → va_P D vwCl (wNe K hNe hNc sNe ++ wNc K hNc sNc ++ wRo K hRo sRo) H → va_D A (wNe K hNe hNc sNe ++ wNc K hNc sNc ++ wRo K hRo sRo) → va_S A s.heap H locs → lv_has ls 10 [(0, .ref (hNe 99)), (1, .ref (hRo 99)), (3, .int p3), (4, .ref (hNc p2.toNatClampNeg)), (5, .int x5)] → W p l e (headSpec wz_X5_stopAt r_X5_stopAt).room s m args below meth c H locs 0 0 Q (F0 m 38 ls [.int y0]) := by
    intro x5 y0 sNe H locs ls hf hP hD hS hl
    unfold f_X5_stopAt_38 at hf
    obtain ⟨g9, hf⟩ := gd_s hf
    refine lv_istore (lv' := [(6, .int y0), (0, .ref (hNe 99)), (1, .ref (hRo 99)), (3, .int p3), (4, .ref (hNc p2.toNatClampNeg)), (5, .int x5)]) hx hb dX5_stopAt_38 hl (by decide) rfl (fun ls hl => ?_)
    refine lv_iload_n hx hb dX5_stopAt_40 rfl (lv_at hl 3 rfl) ?_
    refine lv_if_eq (tgt := 51) hx hb dX5_stopAt_41 (by decide) (fun c10 => ?_) (fun c10 => ?_)
    · have hf := it_t hf c10
      refine lv_aload_n hx hb dX5_stopAt_51 rfl (lv_at hl 2 rfl) ?_
      refine va_get (D := D) (ci := 8) (v := .int (sRo.1 2)) (C := RX9) (T := TX9) (N := 19) hx hb hts iX9 hown hK hP ((4 + 9) + 0) (rwr (lnA ln_Ne ln_Nc) o_Ro) rfl 2 (by decide) (htl _ (mB49 _ (List.mem_of_getElem? (i := 11) rfl))) (fun _ h9 => h9) rfl dX5_stopAt_52 ?_
      exact w55 x5 y0 (sRo.1 2) sNe H locs ls hf hP hD hS (lv_sub hl [1, 2, 4, 5, 0] rfl)
    · have hf := it_f hf c10
      refine lv_aload_n hx hb dX5_stopAt_44 rfl (lv_at hl 2 rfl) ?_
      refine va_get (D := D) (ci := 8) (v := .int (sRo.1 3)) (C := RX9) (T := TX9) (N := 19) hx hb hts iX9 hown hK hP ((4 + 9) + 0) (rwr (lnA ln_Ne ln_Nc) o_Ro) rfl 3 (by decide) (htl _ (mB49 _ (List.mem_of_getElem? (i := 10) rfl))) (fun _ h9 => h9) rfl dX5_stopAt_45 ?_
      refine lv_goto (tgt := 55) hx hb dX5_stopAt_48 (by decide) ?_
      exact w55 x5 y0 (sRo.1 3) sNe H locs ls hf hP hD hS (lv_sub hl [1, 2, 4, 5, 0] rfl)
  have w22 : ∀ (y0 : Int32), ∀ (sNe : MS), ∀ (H : Heap) (locs : List Loc) (ls : Array Slot), f_X5_stopAt_22 F sNc sRo p2 p3 y0 sNe = some res → va_P D vwCl (wNe K hNe hNc sNe ++ wNc K hNc sNc ++ wRo K hRo sRo) H → va_D A (wNe K hNe hNc sNe ++ wNc K hNc sNc ++ wRo K hRo sRo) → va_S A s.heap H locs → lv_has ls 10 [(0, .ref (hNe 99)), (1, .ref (hRo 99)), (2, .int p2), (3, .int p3), (4, .ref (hNc p2.toNatClampNeg))] → W p l e (headSpec wz_X5_stopAt r_X5_stopAt).room s m args below meth c H locs 0 0 Q (F0 m 22 ls [.int y0]) := by
    intro y0 sNe H locs ls hf hP hD hS hl
    unfold f_X5_stopAt_22 at hf
    obtain ⟨g5, hf⟩ := gd_s hf
    refine lv_istore (lv' := [(5, .int y0), (0, .ref (hNe 99)), (1, .ref (hRo 99)), (2, .int p2), (3, .int p3), (4, .ref (hNc p2.toNatClampNeg))]) hx hb dX5_stopAt_22 hl (by decide) rfl (fun ls hl => ?_)
    refine lv_iload_n hx hb dX5_stopAt_24 rfl (lv_at hl 4 rfl) ?_
    refine lv_if_eq (tgt := 32) hx hb dX5_stopAt_25 (by decide) (fun c6 => ?_) (fun c6 => ?_)
    · have hf := it_t hf c6
      refine lv_aload_n hx hb dX5_stopAt_32 rfl (lv_at hl 2 rfl) ?_
      refine va_get (D := D) (ci := 8) (v := .ref (hRo 12)) (C := RX9) (T := TX9) (N := 19) hx hb hts iX9 hown hK hP ((4 + 9) + 0) (rwr (lnA ln_Ne ln_Nc) o_Ro) rfl 12 (by decide) (htl _ (mB49 _ (List.mem_of_getElem? (i := 9) rfl))) (fun _ h9 => h9) rfl dX5_stopAt_33 ?_
      refine lv_iload_n hx hb dX5_stopAt_36 rfl (lv_at hl 3 rfl) ?_
      obtain ⟨g7, hf⟩ := gd_s hf
      refine va_iald hx hb hK hP ((4 + 9) + 3) 0 (f := sRo.2.2.1 12) (rwr (lnA ln_Ne ln_Nc) a_Ro_12) rfl (vpb_in g7) dX5_stopAt_37 ?_
      refine lv_topi (fun v8 ev8 => ?_)
      have hf := lz_s hf v8 ev8
      exact w38 y0 v8 sNe H locs ls hf hP hD hS (lv_sub hl [1, 2, 4, 5, 0] rfl)
    · have hf := it_f hf c6
      refine lv_iconst (v := (0 : Int32)) hx hb dX5_stopAt_28 (by decide) ?_
      refine lv_goto (tgt := 38) hx hb dX5_stopAt_29 (by decide) ?_
      exact w38 y0 (0 : Int32) sNe H locs ls hf hP hD hS (lv_sub hl [1, 2, 4, 5, 0] rfl)
  have hen : entryFrame m args 10 = entryFrame m (([.ref (hNe 99), .ref (hRo 99), .int p2, .int p3] : List Value).toArray) 10 := by rw [hargs]
  have hl := lv_entry ([.ref (hNe 99), .ref (hRo 99), .int p2, .int p3]) (n := 10) (Nat.le_of_ble_eq_true rfl)
  rw [hen, lg_entry_eq]
  generalize (lg_sl ([.ref (hNe 99), .ref (hRo 99), .int p2, .int p3]) ++ List.replicate (10 - (lg_sl ([.ref (hNe 99), .ref (hRo 99), .int p2, .int p3])).length) Slot.unset).toArray = ls at hl ⊢
  have hl : lv_has ls 10 [(0, .ref (hNe 99)), (1, .ref (hRo 99)), (2, .int p2), (3, .int p3)] := hl
  unfold f_X5_stopAt at hf
  obtain ⟨H, hHe⟩ : ∃ z, z = s.heap := ⟨_, rfl⟩
  obtain ⟨locs, hLe⟩ : ∃ z : List Loc, z = [] := ⟨_, rfl⟩
  rw [← hLe]
  have hS : va_S A s.heap H locs := by rw [hHe, hLe]; exact hS
  have hP : va_P D vwCl (wNe K hNe hNc sNe ++ wNc K hNc sNc ++ wRo K hRo sRo) H := by rw [hHe]; exact hP
  have hgo : W p l e (headSpec wz_X5_stopAt r_X5_stopAt).room s m args below meth c H locs 0 0 Q (F0 m 0 ls []) := by
    refine lv_aload_n hx hb dX5_stopAt_0 rfl (lv_at hl 0 rfl) ?_
    refine va_get (D := D) (ci := 4) (v := .ref (hNe 0)) (C := RX5) (T := TX5) (N := 3) hx hb hts iX5 hown hK hP 0 (rwl (rwl o_Ne)) rfl 0 (by decide) (htl _ (mB4 _ (List.mem_of_getElem? (i := 23) rfl))) (fun _ h9 => h9) rfl dX5_stopAt_1 ?_
    refine lv_iload_n hx hb dX5_stopAt_4 rfl (lv_at hl 2 rfl) ?_
    obtain ⟨g1, hf⟩ := gd_s hf
    refine va_ald2 (r := hNc p2.toNatClampNeg) hx hb hK hP 1 3 (rwl (rwl a_Ne_0)) rfl (vpb_in g1) (if_pos (vpb_lt g1)) dX5_stopAt_5 ?_
    refine lv_astore (lv' := [(4, .ref (hNc p2.toNatClampNeg)), (0, .ref (hNe 99)), (1, .ref (hRo 99)), (2, .int p2), (3, .int p3)]) hx hb dX5_stopAt_6 hl (by decide) rfl (fun ls hl => ?_)
    refine lv_aload_n hx hb dX5_stopAt_8 rfl (lv_at hl 2 rfl) ?_
    refine va_get (D := D) (ci := 8) (v := .ref (hRo 12)) (C := RX9) (T := TX9) (N := 19) hx hb hts iX9 hown hK hP ((4 + 9) + 0) (rwr (lnA ln_Ne ln_Nc) o_Ro) rfl 12 (by decide) (htl _ (mB49 _ (List.mem_of_getElem? (i := 9) rfl))) (fun _ h9 => h9) rfl dX5_stopAt_9 ?_
    refine lv_iload_n hx hb dX5_stopAt_12 rfl (lv_at hl 3 rfl) ?_
    obtain ⟨g2, hf⟩ := gd_s hf
    refine va_iald hx hb hK hP ((4 + 9) + 3) 0 (f := sRo.2.2.1 12) (rwr (lnA ln_Ne ln_Nc) a_Ro_12) rfl (vpb_in g2) dX5_stopAt_13 ?_
    refine lv_topi (fun v3 ev3 => ?_)
    have hf := lz_s hf v3 ev3
    refine lv_if_le (tgt := 21) hx hb dX5_stopAt_14 (by decide) (fun c4 => ?_) (fun c4 => ?_)
    · have hf := it_t hf c4
      refine lv_iconst (v := (0 : Int32)) hx hb dX5_stopAt_21 (by decide) ?_
      exact w22 (0 : Int32) sNe H locs ls hf hP hD hS (lv_sub hl [1, 2, 3, 4, 0] rfl)
    · have hf := it_f hf c4
      refine lv_iconst (v := (1 : Int32)) hx hb dX5_stopAt_17 (by decide) ?_
      refine lv_goto (tgt := 22) hx hb dX5_stopAt_18 (by decide) ?_
      exact w22 (1 : Int32) sNe H locs ls hf hP hD hS (lv_sub hl [1, 2, 3, 4, 0] rfl)
  rw [hHe] at hgo
  exact hgo

def wz_X5_goAlong : List Cond := .code yX5_goAlong cX5_goAlong 9 (some .boolean) :: wsL_law
abbrev r_X5_goAlong : Room := { frames := 1, cells := 0, slots := 0, locals := 22 }
set_option maxHeartbeats 4000000 in
set_option maxRecDepth 100000 in
theorem c_X5_goAlong (l : Launch) (D : va_G) (K : Nat → ClassId) (F : Nat) (hNe : Nat → Nat) (hNc : Nat → Nat) (hRo : Nat → Nat) (sz : Nat) (sNe : MS) (sNc : MS) (sRo : MS) (p2 : Int32) (p3 : Int32) (p4 : Int32) (res : Int32 × MS) (hf : f_X5_goAlong F sNe sRo p2 p3 p4 sNc = some res) : Met l yX5_goAlong wz_X5_goAlong r_X5_goAlong (va_Pc [.ref (hNe 99), .ref (hRo 99), .int p2, .int p3, .int p4] (PW D K (wNe K hNe hNc sNe ++ wNc K hNc sNc ++ wRo K hRo sRo) sz)) (va_Qi (fun r u => r = res.1 ∧ u = res.2) (fun u t => BW D K (va_A (wNe K hNe hNc sNe ++ wNc K hNc sNc ++ wRo K hRo sRo) sz) (wNe K hNe hNc sNe ++ wNc K hNc u ++ wRo K hRo sRo) t) (va_A (wNe K hNe hNc sNe ++ wNc K hNc sNc ++ wRo K hRo sRo) sz)) 0 0 (va_A (wNe K hNe hNc sNe ++ wNc K hNc sNc ++ wRo K hRo sRo) sz) := by
  refine Met.ofW (cc := cX5_goAlong) (maxL := 9) (ret := (some .boolean)) (by decide) rfl ?_
  intro p e s m args below meth c s₁ B hml hv
  obtain ⟨hargs, hsz, hP, hK, hD0⟩ := hv
  have hx := B.exec
  have hb := B.bytes
  have hr := B.returns
  have hts := atoms_spec (ws := wz_X5_goAlong) B.pre
  have htl : ∀ w ∈ wsL_law, w.before args s = true := fun w h => hts w (List.mem_cons_of_mem _ h)
  have hown : s.vm.findClass RX5 = some m.cls := findClass_of_methodNamed B.named
  have hlocks := B.notSynchronized
  subst hsz
  have hD := hD0.self (sz := s.heap.size)
  generalize hAe : va_A (wNe K hNe hNc sNe ++ wNc K hNc sNc ++ wRo K hRo sRo) s.heap.size = A at hD ⊢
  have hA : ∀ q : Nat, s.heap.size ≤ q → A q := fun q h => by rw [← hAe]; exact Or.inr h
  have hS : va_S A s.heap s.heap [] := va_S.rf
  have iX5 : ∀ w ∈ wsX50, w ∈ wz_X5_goAlong := fun w h => List.mem_cons_of_mem _ (inlX5 w h)
  have iX9 : ∀ w ∈ wsX90, w ∈ wz_X5_goAlong := fun w h => List.mem_cons_of_mem _ (inlX9 w h)
  suffices hgo : ∀ Q : State → Prop, Q = MQ below (va_Qi (fun r u => r = res.1 ∧ u = res.2) (fun u t => BW D K A (wNe K hNe hNc sNe ++ wNc K hNc u ++ wRo K hRo sRo) t) A) args s 0 0 A → W p l e (headSpec wz_X5_goAlong r_X5_goAlong).room s m args below meth c s.heap [] 0 0 Q (entryFrame m args 9) from hgo _ rfl
  intro Q hQ
  have w86 : ∀ (k23 : Int32 → Int32 → Int32 → MS → Option (Int32 × MS)), (∀ (x5 : Int32), ∀ (x6 : Int32), ∀ (x8 : Int32), ∀ (sNc : MS), ∀ (H : Heap) (locs : List Loc) (ls : Array Slot), k23 x5 x6 x8 sNc = some res → va_P D vwCl (wNe K hNe hNc sNe ++ wNc K hNc sNc ++ wRo K hRo sRo) H → va_D A (wNe K hNe hNc sNe ++ wNc K hNc sNc ++ wRo K hRo sRo) → va_S A s.heap H locs → lv_has ls 9 [(0, .ref (hNe 99)), (1, .ref (hRo 99)), (4, .int p4), (5, .int x5), (6, .int x6), (7, .ref (hNc p3.toNatClampNeg)), (8, .int x8)] → W p l e (headSpec wz_X5_goAlong r_X5_goAlong).room s m args below meth c H locs 0 0 Q (F0 m 23 ls [])) → ∀ (x5 : Int32), ∀ (x6 : Int32), ∀ (x8 : Int32), ∀ (sNc : MS), ∀ (H : Heap) (locs : List Loc) (ls : Array Slot), f_X5_goAlong_86 F sNe sRo p2 p3 p4 k23 x5 x6 x8 sNc = some res → va_P D vwCl (wNe K hNe hNc sNe ++ wNc K hNc sNc ++ wRo K hRo sRo) H → va_D A (wNe K hNe hNc sNe ++ wNc K hNc sNc ++ wRo K hRo sRo) → va_S A s.heap H locs → lv_has ls 9 [(0, .ref (hNe 99)), (1, .ref (hRo 99)), (4, .int p4), (5, .int x5), (6, .int x6), (7, .ref (hNc p3.toNatClampNeg)), (8, .int x8)] → W p l e (headSpec wz_X5_goAlong r_X5_goAlong).room s m args below meth c H locs 0 0 Q (F0 m 86 ls []) := by
    intro k23 hk23 x5 x6 x8 sNc H locs ls hf hP hD hS hl
    unfold f_X5_goAlong_86 at hf
    obtain ⟨g16, hf⟩ := gd_s hf
    obtain ⟨v17, ev17⟩ : ∃ z : Int32, z = x8 + (1 : Int32) := ⟨_, rfl⟩
    have hf := lz_s hf v17 ev17
    refine lv_iinc (v := v17) (lv' := [(8, .int v17), (0, .ref (hNe 99)), (1, .ref (hRo 99)), (4, .int p4), (5, .int x5), (6, .int x6), (7, .ref (hNc p3.toNatClampNeg))]) hx hb dX5_goAlong_86 hl (k := 6) rfl (by rw [ev17]; rfl) (by decide) rfl (fun ls hl => ?_)
    refine lv_goto (tgt := 23) hx hb dX5_goAlong_89 (by decide) ?_
    exact hk23 x5 x6 v17 sNc H locs ls hf hP hD hS (lv_sub hl [1, 2, 3, 4, 5, 6, 0] rfl)
  have w23 : ∀ (n : Nat), ∀ (x5 : Int32), ∀ (x6 : Int32), ∀ (x8 : Int32), ∀ (sNc : MS), ∀ (H : Heap) (locs : List Loc) (ls : Array Slot), f_X5_goAlong_23 F sNe sRo p2 p3 p4 n x5 x6 x8 sNc = some res → va_P D vwCl (wNe K hNe hNc sNe ++ wNc K hNc sNc ++ wRo K hRo sRo) H → va_D A (wNe K hNe hNc sNe ++ wNc K hNc sNc ++ wRo K hRo sRo) → va_S A s.heap H locs → lv_has ls 9 [(0, .ref (hNe 99)), (1, .ref (hRo 99)), (4, .int p4), (5, .int x5), (6, .int x6), (7, .ref (hNc p3.toNatClampNeg)), (8, .int x8)] → W p l e (headSpec wz_X5_goAlong r_X5_goAlong).room s m args below meth c H locs 0 0 Q (F0 m 23 ls []) := by
    intro n
    induction n with
    | zero =>
      intro x5 x6 x8 sNc H locs ls hf
      exact absurd (show none = some res from hf) (fun h => nomatch h)
    | succ n ih =>
      intro x5 x6 x8 sNc H locs ls hf hP hD hS hl
      rw [f_X5_goAlong_23] at hf
      obtain ⟨g3, hf⟩ := gd_s hf
      refine lv_iload hx hb dX5_goAlong_23 (lv_at hl 6 rfl) ?_
      refine lv_aload_n hx hb dX5_goAlong_25 rfl (lv_at hl 1 rfl) ?_
      refine va_get (D := D) (ci := 8) (v := .int (sRo.1 0)) (C := RX9) (T := TX9) (N := 19) hx hb hts iX9 hown hK hP ((4 + 9) + 0) (rwr (lnA ln_Ne ln_Nc) o_Ro) rfl 0 (by decide) (htl _ (mB48 _ (List.mem_of_getElem? (i := 23) rfl))) (fun _ h9 => h9) rfl dX5_goAlong_26 ?_
      refine lv_icmp_gt (tgt := 92) hx hb dX5_goAlong_29 (by decide) (fun c4 => ?_) (fun c4 => ?_)
      · have hf := it_t hf c4
        refine lv_iload hx hb dX5_goAlong_92 (lv_at hl 3 rfl) ?_
        obtain ⟨g5, hf⟩ := gd_s hf
        have e9 := Option.some.inj hf
        rw [hQ]
        exact W.zret (v := x5) hx hb hr (bob_s g5) (fun t ht hW => ⟨⟨x5, sNc, rfl, ⟨pr1 e9, pr2 e9⟩, ⟨by rw [ht]; exact hP, va_K.moved hW.alike hK, hD⟩⟩, hS.F ht⟩) hS.2.2 dX5_goAlong_94
      · have hf := it_f hf c4
        refine lv_aload_n hx hb dX5_goAlong_32 rfl (lv_at hl 0 rfl) ?_
        refine va_get (D := D) (ci := 4) (v := .ref (hNe 1)) (C := RX5) (T := TX5) (N := 3) hx hb hts iX5 hown hK hP 0 (rwl (rwl o_Ne)) rfl 1 (by decide) (htl _ (mB5 _ (List.mem_of_getElem? (i := 0) rfl))) (fun _ h9 => h9) rfl dX5_goAlong_33 ?_
        refine lv_iload hx hb dX5_goAlong_36 (lv_at hl 6 rfl) ?_
        obtain ⟨g6, hf⟩ := gd_s hf
        refine va_iald hx hb hK hP 2 0 (f := sNe.2.2.1 1) (rwl (rwl a_Ne_1)) rfl (vpb_in g6) dX5_goAlong_38 ?_
        refine lv_ldc (v := (268435456 : Int32)) hx hb hown (htl _ (mB48 _ (List.mem_of_getElem? (i := 21) rfl))) dX5_goAlong_39 ?_
        refine lv_icmp_ge (tgt := 86) hx hb dX5_goAlong_41 (by decide) (fun c7 => ?_) (fun c7 => ?_)
        · have hf := it_t hf c7
          exact w86 (f_X5_goAlong_23 F sNe sRo p2 p3 p4 n) ih x5 x6 x8 sNc H locs ls hf hP hD hS (lv_sub hl [0, 1, 2, 3, 4, 5, 6] rfl)
        · have hf := it_f hf c7
          refine lv_aload_n hx hb dX5_goAlong_44 rfl (lv_at hl 0 rfl) ?_
          refine va_get (D := D) (ci := 4) (v := .ref (hNe 1)) (C := RX5) (T := TX5) (N := 3) hx hb hts iX5 hown hK hP 0 (rwl (rwl o_Ne)) rfl 1 (by decide) (htl _ (mB5 _ (List.mem_of_getElem? (i := 0) rfl))) (fun _ h9 => h9) rfl dX5_goAlong_45 ?_
          refine lv_iload hx hb dX5_goAlong_48 (lv_at hl 6 rfl) ?_
          obtain ⟨g8, hf⟩ := gd_s hf
          refine va_iald hx hb hK hP 2 0 (f := sNe.2.2.1 1) (rwl (rwl a_Ne_1)) rfl (vpb_in g8) dX5_goAlong_50 ?_
          refine lv_iload hx hb dX5_goAlong_51 (lv_at hl 2 rfl) ?_
          refine lv_iadd hx hb dX5_goAlong_53 ?_
          refine lv_aload hx hb dX5_goAlong_54 (lv_at hl 5 rfl) ?_
          refine lv_iload hx hb dX5_goAlong_56 (lv_at hl 6 rfl) ?_
          refine lv_iload hx hb dX5_goAlong_58 (lv_at hl 4 rfl) ?_
          refine lv_isub hx hb dX5_goAlong_60 ?_
          obtain ⟨g9, hf⟩ := gd_s hf
          refine va_iald hx hb hK hP (4 + p3.toNatClampNeg) 0 (f := sNc.2.2.1 p3.toNatClampNeg) (rwl (rwr (n := 4) rfl (wNc_r p3.toNatClampNeg (vpb_lt g3)))) rfl (vpb_in g9) dX5_goAlong_61 ?_
          refine lv_topi (fun v10 ev10 => ?_)
          have hf := lz_s hf v10 ev10
          refine lv_icmp_ge (tgt := 86) hx hb dX5_goAlong_62 (by decide) (fun c11 => ?_) (fun c11 => ?_)
          · have hf := it_t hf c11
            exact w86 (f_X5_goAlong_23 F sNe sRo p2 p3 p4 n) ih x5 x6 x8 sNc H locs ls hf hP hD hS (lv_sub hl [0, 1, 2, 3, 4, 5, 6] rfl)
          · have hf := it_f hf c11
            refine lv_aload hx hb dX5_goAlong_65 (lv_at hl 5 rfl) ?_
            refine lv_iload hx hb dX5_goAlong_67 (lv_at hl 6 rfl) ?_
            refine lv_iload hx hb dX5_goAlong_69 (lv_at hl 4 rfl) ?_
            refine lv_isub hx hb dX5_goAlong_71 ?_
            refine lv_aload_n hx hb dX5_goAlong_72 rfl (lv_at hl 0 rfl) ?_
            refine va_get (D := D) (ci := 4) (v := .ref (hNe 1)) (C := RX5) (T := TX5) (N := 3) hx hb hts iX5 hown hK hP 0 (rwl (rwl o_Ne)) rfl 1 (by decide) (htl _ (mB5 _ (List.mem_of_getElem? (i := 0) rfl))) (fun _ h9 => h9) rfl dX5_goAlong_73 ?_
            refine lv_iload hx hb dX5_goAlong_76 (lv_at hl 6 rfl) ?_
            obtain ⟨g12, hf⟩ := gd_s hf
            refine va_iald hx hb hK hP 2 0 (f := sNe.2.2.1 1) (rwl (rwl a_Ne_1)) rfl (vpb_in g12) dX5_goAlong_78 ?_
            refine lv_iload hx hb dX5_goAlong_79 (lv_at hl 2 rfl) ?_
            refine lv_iadd hx hb dX5_goAlong_81 ?_
            refine lv_topi (fun v13 ev13 => ?_)
            have hf := lz_s hf v13 ev13
            obtain ⟨g14, hf⟩ := gd_s hf
            refine va_iast hx hb hK hP hD hS (4 + p3.toNatClampNeg) 0 (f := sNc.2.2.1 p3.toNatClampNeg) (rwl (rwr (n := 4) rfl (wNc_r p3.toNatClampNeg (vpb_lt g3)))) rfl (vpb_in g14) dX5_goAlong_82 (fun H locs hP hD hS => ?_)
            rw [stl (str (n := 4) rfl (wNc_w p3.toNatClampNeg (vpb_lt g3))) (rlt (rwr (n := 4) rfl (wNc_r p3.toNatClampNeg (vpb_lt g3))))] at hP hD
            obtain ⟨s15, es15⟩ : ∃ z, z = sA sNc p3.toNatClampNeg ((x8 - x6).toNatClampNeg) v13 := ⟨_, rfl⟩
            have hP : va_P D vwCl (wNe K hNe hNc sNe ++ wNc K hNc s15 ++ wRo K hRo sRo) H := by rw [es15]; exact hP
            have hD : va_D A (wNe K hNe hNc sNe ++ wNc K hNc s15 ++ wRo K hRo sRo) := by rw [es15]; exact hD
            have hf := lz_s hf s15 es15
            refine lv_iconst (v := (1 : Int32)) hx hb dX5_goAlong_83 (by decide) ?_
            refine lv_istore (lv' := [(5, .int (1 : Int32)), (0, .ref (hNe 99)), (1, .ref (hRo 99)), (4, .int p4), (6, .int x6), (7, .ref (hNc p3.toNatClampNeg)), (8, .int x8)]) hx hb dX5_goAlong_84 hl (by decide) rfl (fun ls hl => ?_)
            exact w86 (f_X5_goAlong_23 F sNe sRo p2 p3 p4 n) ih (1 : Int32) x6 x8 s15 H locs ls hf hP hD hS (lv_sub hl [1, 2, 3, 0, 4, 5, 6] rfl)
  have hen : entryFrame m args 9 = entryFrame m (([.ref (hNe 99), .ref (hRo 99), .int p2, .int p3, .int p4] : List Value).toArray) 9 := by rw [hargs]
  have hl := lv_entry ([.ref (hNe 99), .ref (hRo 99), .int p2, .int p3, .int p4]) (n := 9) (Nat.le_of_ble_eq_true rfl)
  rw [hen, lg_entry_eq]
  generalize (lg_sl ([.ref (hNe 99), .ref (hRo 99), .int p2, .int p3, .int p4]) ++ List.replicate (9 - (lg_sl ([.ref (hNe 99), .ref (hRo 99), .int p2, .int p3, .int p4])).length) Slot.unset).toArray = ls at hl ⊢
  have hl : lv_has ls 9 [(0, .ref (hNe 99)), (1, .ref (hRo 99)), (2, .int p2), (3, .int p3), (4, .int p4)] := hl
  unfold f_X5_goAlong at hf
  obtain ⟨H, hHe⟩ : ∃ z, z = s.heap := ⟨_, rfl⟩
  obtain ⟨locs, hLe⟩ : ∃ z : List Loc, z = [] := ⟨_, rfl⟩
  rw [← hLe]
  have hS : va_S A s.heap H locs := by rw [hHe, hLe]; exact hS
  have hP : va_P D vwCl (wNe K hNe hNc sNe ++ wNc K hNc sNc ++ wRo K hRo sRo) H := by rw [hHe]; exact hP
  have hgo : W p l e (headSpec wz_X5_goAlong r_X5_goAlong).room s m args below meth c H locs 0 0 Q (F0 m 0 ls []) := by
    refine lv_iconst (v := (0 : Int32)) hx hb dX5_goAlong_0 (by decide) ?_
    refine lv_istore (lv' := [(5, .int (0 : Int32)), (0, .ref (hNe 99)), (1, .ref (hRo 99)), (2, .int p2), (3, .int p3), (4, .int p4)]) hx hb dX5_goAlong_1 hl (by decide) rfl (fun ls hl => ?_)
    refine lv_aload_n hx hb dX5_goAlong_3 rfl (lv_at hl 2 rfl) ?_
    refine lv_iload_n hx hb dX5_goAlong_4 rfl (lv_at hl 3 rfl) ?_
    refine lv_iload_n hx hb dX5_goAlong_5 rfl (lv_at hl 4 rfl) ?_
    obtain ⟨o1, go1, hf⟩ := bd_s hf
    refine ro_Vi (As := [.int p2, .int p3]) (rest := []) ⟨hx, hb, hml, hown, hts⟩ (c_X9_pintsOf l D K F hRo sRo p2 p3 o1 go1) (cwV 2 hts (gcV_X9_pintsOf (mB49 _ (List.mem_of_getElem? (i := 22) rfl))) rfl rfl rfl hdV_X9_pintsOf ⟨Nat.le_of_ble_eq_true rfl, Nat.le_of_ble_eq_true rfl⟩) hK hP hS (va_PL (cs := [wNe K hNe hNc sNe, wNc K hNc sNc, wRo K hRo sRo]) (cc := [wRo K hRo sRo]) hP (fl3 _ _ _) [2] rfl (fl1 _)) (va_recv hK hP (ci := 8) (q0 := ((4 + 9) + 0)) rfl (rwr (lnA ln_Ne ln_Nc) o_Ro)) rfl hl.1 rfl (Nat.le_of_ble_eq_true rfl) dX5_goAlong_6 ⟨Nat.zero_le _, Nat.zero_le _⟩ (fun H locs hP hS => ?_)
    refine lv_istore (lv' := [(6, .int o1), (5, .int (0 : Int32)), (0, .ref (hNe 99)), (1, .ref (hRo 99)), (2, .int p2), (3, .int p3), (4, .int p4)]) hx hb dX5_goAlong_9 hl (by decide) rfl (fun ls hl => ?_)
    refine lv_aload_n hx hb dX5_goAlong_11 rfl (lv_at hl 2 rfl) ?_
    refine va_get (D := D) (ci := 4) (v := .ref (hNe 0)) (C := RX5) (T := TX5) (N := 3) hx hb hts iX5 hown hK hP 0 (rwl (rwl o_Ne)) rfl 0 (by decide) (htl _ (mB4 _ (List.mem_of_getElem? (i := 23) rfl))) (fun _ h9 => h9) rfl dX5_goAlong_12 ?_
    refine lv_iload_n hx hb dX5_goAlong_15 rfl (lv_at hl 5 rfl) ?_
    obtain ⟨g2, hf⟩ := gd_s hf
    refine va_ald2 (r := hNc p3.toNatClampNeg) hx hb hK hP 1 3 (rwl (rwl a_Ne_0)) rfl (vpb_in g2) (if_pos (vpb_lt g2)) dX5_goAlong_16 ?_
    refine lv_astore (lv' := [(7, .ref (hNc p3.toNatClampNeg)), (6, .int o1), (5, .int (0 : Int32)), (0, .ref (hNe 99)), (1, .ref (hRo 99)), (2, .int p2), (3, .int p3), (4, .int p4)]) hx hb dX5_goAlong_17 hl (by decide) rfl (fun ls hl => ?_)
    refine lv_iload hx hb dX5_goAlong_19 (lv_at hl 1 rfl) ?_
    refine lv_istore (lv' := [(8, .int o1), (7, .ref (hNc p3.toNatClampNeg)), (6, .int o1), (5, .int (0 : Int32)), (0, .ref (hNe 99)), (1, .ref (hRo 99)), (2, .int p2), (3, .int p3), (4, .int p4)]) hx hb dX5_goAlong_21 hl (by decide) rfl (fun ls hl => ?_)
    exact w23 F (0 : Int32) o1 o1 sNc H locs ls hf hP hD hS (lv_sub hl [4, 5, 8, 3, 2, 1, 0] rfl)
  rw [hHe] at hgo
  exact hgo

theorem gcV_X9_isRoad {T0 : Cond} {own : String} {i : Nat} (h : Cond.methodLink own i yX9_isRoad ∈ wsL_law) : GoodIn (T0 :: wsL_law) (wsV own i RX9 yX9_isRoad wz_X9_isRoad) := gV h (mB14 _ (List.mem_of_getElem? (i := 15) rfl)) (mB14 _ (List.mem_of_getElem? (i := 16) rfl)) (mB1 _ (List.mem_of_getElem? (i := 17) rfl)) (mB14 _ (List.mem_of_getElem? (i := 17) rfl))
theorem hdV_X9_isRoad : yX9_isRoad.cls = RX9 ∧ yX9_isRoad.cls ≠ "java/lang/invoke/MethodHandle" ∧ yX9_isRoad.cls ≠ "java/lang/invoke/VarHandle" ∧ (parseMethodDescriptor yX9_isRoad.desc).map (fun d => d.parameters.length) = some 2 := by decide +kernel
theorem gcV_X5_goAlong {T0 : Cond} {own : String} {i : Nat} (h : Cond.methodLink own i yX5_goAlong ∈ wsL_law) : GoodIn (T0 :: wsL_law) (wsV own i RX5 yX5_goAlong wz_X5_goAlong) := gV h (mB49 _ (List.mem_of_getElem? (i := 19) rfl)) (mB49 _ (List.mem_of_getElem? (i := 20) rfl)) (mB2 _ (List.mem_of_getElem? (i := 10) rfl)) (mB49 _ (List.mem_of_getElem? (i := 21) rfl))
theorem hdV_X5_goAlong : yX5_goAlong.cls = RX5 ∧ yX5_goAlong.cls ≠ "java/lang/invoke/MethodHandle" ∧ yX5_goAlong.cls ≠ "java/lang/invoke/VarHandle" ∧ (parseMethodDescriptor yX5_goAlong.desc).map (fun d => d.parameters.length) = some 4 := by decide +kernel
def wz_X5_goOn : List Cond := .code yX5_goOn cX5_goOn 6 (some .boolean) :: wsL_law
abbrev r_X5_goOn : Room := { frames := 2, cells := 0, slots := 0, locals := 50 }
set_option maxHeartbeats 4000000 in
set_option maxRecDepth 100000 in
theorem c_X5_goOn (l : Launch) (D : va_G) (K : Nat → ClassId) (F : Nat) (hNe : Nat → Nat) (hNc : Nat → Nat) (hRo : Nat → Nat) (sz : Nat) (sNe : MS) (sNc : MS) (sRo : MS) (p2 : Int32) (p3 : Int32) (res : Int32 × MS) (hf : f_X5_goOn F sNe sRo p2 p3 sNc = some res) : Met l yX5_goOn wz_X5_goOn r_X5_goOn (va_Pc [.ref (hNe 99), .ref (hRo 99), .int p2, .int p3] (PW D K (wNe K hNe hNc sNe ++ wNc K hNc sNc ++ wRo K hRo sRo) sz)) (va_Qi (fun r u => r = res.1 ∧ u = res.2) (fun u t => BW D K (va_A (wNe K hNe hNc sNe ++ wNc K hNc sNc ++ wRo K hRo sRo) sz) (wNe K hNe hNc sNe ++ wNc K hNc u ++ wRo K hRo sRo) t) (va_A (wNe K hNe hNc sNe ++ wNc K hNc sNc ++ wRo K hRo sRo) sz)) 0 0 (va_A (wNe K hNe hNc sNe ++ wNc K hNc sNc ++ wRo K hRo sRo) sz) := by
  refine Met.ofW (cc := cX5_goOn) (maxL := 6) (ret := (some .boolean)) (by decide) rfl ?_
  intro p e s m args below meth c s₁ B hml hv
  obtain ⟨hargs, hsz, hP, hK, hD0⟩ := hv
  have hx := B.exec
  have hb := B.bytes
  have hr := B.returns
  have hts := atoms_spec (ws := wz_X5_goOn) B.pre
  have htl : ∀ w ∈ wsL_law, w.before args s = true := fun w h => hts w (List.mem_cons_of_mem _ h)
  have hown : s.vm.findClass RX5 = some m.cls := findClass_of_methodNamed B.named
  have hlocks := B.notSynchronized
  subst hsz
  have hD := hD0.self (sz := s.heap.size)
  generalize hAe : va_A (wNe K hNe hNc sNe ++ wNc K hNc sNc ++ wRo K hRo sRo) s.heap.size = A at hD ⊢
  have hA : ∀ q : Nat, s.heap.size ≤ q → A q := fun q h => by rw [← hAe]; exact Or.inr h
  have hS : va_S A s.heap s.heap [] := va_S.rf
  have iX9 : ∀ w ∈ wsX90, w ∈ wz_X5_goOn := fun w h => List.mem_cons_of_mem _ (inlX9 w h)
  suffices hgo : ∀ Q : State → Prop, Q = MQ below (va_Qi (fun r u => r = res.1 ∧ u = res.2) (fun u t => BW D K A (wNe K hNe hNc sNe ++ wNc K hNc u ++ wRo K hRo sRo) t) A) args s 0 0 A → W p l e (headSpec wz_X5_goOn r_X5_goOn).room s m args below meth c s.heap [] 0 0 Q (entryFrame m args 6) from hgo _ rfl
  intro Q hQ
  have w63 : ∀ (k6 : Int32 → Int32 → MS → Option (Int32 × MS)), (∀ (x4 : Int32), ∀ (x5 : Int32), ∀ (sNc : MS), ∀ (H : Heap) (locs : List Loc) (ls : Array Slot), k6 x4 x5 sNc = some res → va_P D vwCl (wNe K hNe hNc sNe ++ wNc K hNc sNc ++ wRo K hRo sRo) H → va_D A (wNe K hNe hNc sNe ++ wNc K hNc sNc ++ wRo K hRo sRo) → va_S A s.heap H locs → lv_has ls 6 [(0, .ref (hNe 99)), (1, .ref (hRo 99)), (2, .int p2), (3, .int p3), (4, .int x4), (5, .int x5)] → W p l e (headSpec wz_X5_goOn r_X5_goOn).room s m args below meth c H locs 0 0 Q (F0 m 6 ls [])) → ∀ (x4 : Int32), ∀ (x5 : Int32), ∀ (sNc : MS), ∀ (H : Heap) (locs : List Loc) (ls : Array Slot), f_X5_goOn_63 F sNe sRo p2 p3 k6 x4 x5 sNc = some res → va_P D vwCl (wNe K hNe hNc sNe ++ wNc K hNc sNc ++ wRo K hRo sRo) H → va_D A (wNe K hNe hNc sNe ++ wNc K hNc sNc ++ wRo K hRo sRo) → va_S A s.heap H locs → lv_has ls 6 [(0, .ref (hNe 99)), (1, .ref (hRo 99)), (2, .int p2), (3, .int p3), (4, .int x4), (5, .int x5)] → W p l e (headSpec wz_X5_goOn r_X5_goOn).room s m args below meth c H locs 0 0 Q (F0 m 63 ls []) := by
    intro k6 hk6 x4 x5 sNc H locs ls hf hP hD hS hl
    unfold f_X5_goOn_63 at hf
    obtain ⟨v10, ev10⟩ : ∃ z : Int32, z = x5 + (1 : Int32) := ⟨_, rfl⟩
    have hf := lz_s hf v10 ev10
    refine lv_iinc (v := v10) (lv' := [(5, .int v10), (0, .ref (hNe 99)), (1, .ref (hRo 99)), (2, .int p2), (3, .int p3), (4, .int x4)]) hx hb dX5_goOn_63 hl (k := 5) rfl (by rw [ev10]; rfl) (by decide) rfl (fun ls hl => ?_)
    refine lv_goto (tgt := 6) hx hb dX5_goOn_66 (by decide) ?_
    exact hk6 x4 v10 sNc H locs ls hf hP hD hS (lv_sub hl [1, 2, 3, 4, 5, 0] rfl)
  have w61 : ∀ (k6 : Int32 → Int32 → MS → Option (Int32 × MS)), (∀ (x4 : Int32), ∀ (x5 : Int32), ∀ (sNc : MS), ∀ (H : Heap) (locs : List Loc) (ls : Array Slot), k6 x4 x5 sNc = some res → va_P D vwCl (wNe K hNe hNc sNe ++ wNc K hNc sNc ++ wRo K hRo sRo) H → va_D A (wNe K hNe hNc sNe ++ wNc K hNc sNc ++ wRo K hRo sRo) → va_S A s.heap H locs → lv_has ls 6 [(0, .ref (hNe 99)), (1, .ref (hRo 99)), (2, .int p2), (3, .int p3), (4, .int x4), (5, .int x5)] → W p l e (headSpec wz_X5_goOn r_X5_goOn).room s m args below meth c H locs 0 0 Q (F0 m 6 ls [])) → ∀ (x5 : Int32), ∀ (y0 : Int32), ∀ (sNc : MS), ∀ (H : Heap) (locs : List Loc) (ls : Array Slot), f_X5_goOn_61 F sNe sRo p2 p3 k6 x5 y0 sNc = some res → va_P D vwCl (wNe K hNe hNc sNe ++ wNc K hNc sNc ++ wRo K hRo sRo) H → va_D A (wNe K hNe hNc sNe ++ wNc K hNc sNc ++ wRo K hRo sRo) → va_S A s.heap H locs → lv_has ls 6 [(0, .ref (hNe 99)), (1, .ref (hRo 99)), (2, .int p2), (3, .int p3), (5, .int x5)] → W p l e (headSpec wz_X5_goOn r_X5_goOn).room s m args below meth c H locs 0 0 Q (F0 m 61 ls [.int y0]) := by
    intro k6 hk6 x5 y0 sNc H locs ls hf hP hD hS hl
    unfold f_X5_goOn_61 at hf
    refine lv_istore (lv' := [(4, .int y0), (0, .ref (hNe 99)), (1, .ref (hRo 99)), (2, .int p2), (3, .int p3), (5, .int x5)]) hx hb dX5_goOn_61 hl (by decide) rfl (fun ls hl => ?_)
    exact w63 k6 hk6 y0 x5 sNc H locs ls hf hP hD hS (lv_sub hl [1, 2, 3, 4, 0, 5] rfl)
  have w56 : ∀ (k6 : Int32 → Int32 → MS → Option (Int32 × MS)), (∀ (x4 : Int32), ∀ (x5 : Int32), ∀ (sNc : MS), ∀ (H : Heap) (locs : List Loc) (ls : Array Slot), k6 x4 x5 sNc = some res → va_P D vwCl (wNe K hNe hNc sNe ++ wNc K hNc sNc ++ wRo K hRo sRo) H → va_D A (wNe K hNe hNc sNe ++ wNc K hNc sNc ++ wRo K hRo sRo) → va_S A s.heap H locs → lv_has ls 6 [(0, .ref (hNe 99)), (1, .ref (hRo 99)), (2, .int p2), (3, .int p3), (4, .int x4), (5, .int x5)] → W p l e (headSpec wz_X5_goOn r_X5_goOn).room s m args below meth c H locs 0 0 Q (F0 m 6 ls [])) → ∀ (x5 : Int32), ∀ (sNc : MS), ∀ (H : Heap) (locs : List Loc) (ls : Array Slot), f_X5_goOn_56 F sNe sRo p2 p3 k6 x5 sNc = some res → va_P D vwCl (wNe K hNe hNc sNe ++ wNc K hNc sNc ++ wRo K hRo sRo) H → va_D A (wNe K hNe hNc sNe ++ wNc K hNc sNc ++ wRo K hRo sRo) → va_S A s.heap H locs → lv_has ls 6 [(0, .ref (hNe 99)), (1, .ref (hRo 99)), (2, .int p2), (3, .int p3), (5, .int x5)] → W p l e (headSpec wz_X5_goOn r_X5_goOn).room s m args below meth c H locs 0 0 Q (F0 m 56 ls []) := by
    intro k6 hk6 x5 sNc H locs ls hf hP hD hS hl
    unfold f_X5_goOn_56 at hf
    refine lv_iconst (v := (1 : Int32)) hx hb dX5_goOn_56 (by decide) ?_
    refine lv_goto (tgt := 61) hx hb dX5_goOn_57 (by decide) ?_
    exact w61 k6 hk6 x5 (1 : Int32) sNc H locs ls hf hP hD hS (lv_sub hl [0, 1, 2, 3, 4] rfl)
  have w45 : ∀ (k6 : Int32 → Int32 → MS → Option (Int32 × MS)), (∀ (x4 : Int32), ∀ (x5 : Int32), ∀ (sNc : MS), ∀ (H : Heap) (locs : List Loc) (ls : Array Slot), k6 x4 x5 sNc = some res → va_P D vwCl (wNe K hNe hNc sNe ++ wNc K hNc sNc ++ wRo K hRo sRo) H → va_D A (wNe K hNe hNc sNe ++ wNc K hNc sNc ++ wRo K hRo sRo) → va_S A s.heap H locs → lv_has ls 6 [(0, .ref (hNe 99)), (1, .ref (hRo 99)), (2, .int p2), (3, .int p3), (4, .int x4), (5, .int x5)] → W p l e (headSpec wz_X5_goOn r_X5_goOn).room s m args below meth c H locs 0 0 Q (F0 m 6 ls [])) → ∀ (x4 : Int32), ∀ (x5 : Int32), ∀ (y2 : Int32), ∀ (y3 : Int32), ∀ (y4 : Int32), ∀ (sNc : MS), ∀ (H : Heap) (locs : List Loc) (ls : Array Slot), f_X5_goOn_45 F sNe sRo p2 p3 k6 x4 x5 y2 y3 y4 sNc = some res → va_P D vwCl (wNe K hNe hNc sNe ++ wNc K hNc sNc ++ wRo K hRo sRo) H → va_D A (wNe K hNe hNc sNe ++ wNc K hNc sNc ++ wRo K hRo sRo) → va_S A s.heap H locs → lv_has ls 6 [(0, .ref (hNe 99)), (1, .ref (hRo 99)), (2, .int p2), (3, .int p3), (4, .int x4), (5, .int x5)] → W p l e (headSpec wz_X5_goOn r_X5_goOn).room s m args below meth c H locs 0 0 Q (F0 m 45 ls [.int y4, .int y3, .int y2, .ref (hRo 99), .ref (hNe 99)]) := by
    intro k6 hk6 x4 x5 y2 y3 y4 sNc H locs ls hf hP hD hS hl
    unfold f_X5_goOn_45 at hf
    obtain ⟨o7, go7, hf⟩ := bd_s hf
    refine rs_Vi (As := [.ref (hRo 99), .int y2, .int y3, .int y4]) (rest := []) ⟨hx, hb, hml, hown, hts⟩ (c_X5_goAlong l D K F hNe hNc hRo H.size sNe sNc sRo y2 y3 y4 o7 go7) (cwV 4 hts (gcV_X5_goAlong (mB49 _ (List.mem_of_getElem? (i := 18) rfl))) rfl rfl rfl hdV_X5_goAlong ⟨Nat.le_of_ble_eq_true rfl, Nat.le_of_ble_eq_true rfl⟩) hK hP hD hS hA (va_recv hK hP (ci := 4) (q0 := 0) rfl (rwl (rwl o_Ne))) rfl hl.1 rfl (Nat.le_of_ble_eq_true rfl) dX5_goOn_45 ⟨Nat.zero_le _, Nat.zero_le _⟩ (fun H locs hP hD hS => ?_)
    have hP : va_P D vwCl (wNe K hNe hNc sNe ++ wNc K hNc o7.2 ++ wRo K hRo sRo) H := hP
    have hD : va_D A (wNe K hNe hNc sNe ++ wNc K hNc o7.2 ++ wRo K hRo sRo) := hD
    refine lv_if_ne (tgt := 56) hx hb dX5_goOn_48 (by decide) (fun c8 => ?_) (fun c8 => ?_)
    · have hf := it_f hf c8
      exact w56 k6 hk6 x5 o7.2 H locs ls hf hP hD hS (lv_sub hl [0, 1, 2, 3, 5] rfl)
    · have hf := it_t hf c8
      refine lv_iload hx hb dX5_goOn_51 (lv_at hl 4 rfl) ?_
      refine lv_if_eq (tgt := 60) hx hb dX5_goOn_53 (by decide) (fun c9 => ?_) (fun c9 => ?_)
      · have hf := it_t hf c9
        refine lv_iconst (v := (0 : Int32)) hx hb dX5_goOn_60 (by decide) ?_
        exact w61 k6 hk6 x5 (0 : Int32) o7.2 H locs ls hf hP hD hS (lv_sub hl [0, 1, 2, 3, 5] rfl)
      · have hf := it_f hf c9
        exact w56 k6 hk6 x5 o7.2 H locs ls hf hP hD hS (lv_sub hl [0, 1, 2, 3, 5] rfl)
  have w6 : ∀ (n : Nat), ∀ (x4 : Int32), ∀ (x5 : Int32), ∀ (sNc : MS), ∀ (H : Heap) (locs : List Loc) (ls : Array Slot), f_X5_goOn_6 F sNe sRo p2 p3 n x4 x5 sNc = some res → va_P D vwCl (wNe K hNe hNc sNe ++ wNc K hNc sNc ++ wRo K hRo sRo) H → va_D A (wNe K hNe hNc sNe ++ wNc K hNc sNc ++ wRo K hRo sRo) → va_S A s.heap H locs → lv_has ls 6 [(0, .ref (hNe 99)), (1, .ref (hRo 99)), (2, .int p2), (3, .int p3), (4, .int x4), (5, .int x5)] → W p l e (headSpec wz_X5_goOn r_X5_goOn).room s m args below meth c H locs 0 0 Q (F0 m 6 ls []) := by
    intro n
    induction n with
    | zero =>
      intro x4 x5 sNc H locs ls hf
      exact absurd (show none = some res from hf) (fun h => nomatch h)
    | succ n ih =>
      intro x4 x5 sNc H locs ls hf hP hD hS hl
      rw [f_X5_goOn_6] at hf
      refine lv_iload hx hb dX5_goOn_6 (lv_at hl 5 rfl) ?_
      refine lv_aload_n hx hb dX5_goOn_8 rfl (lv_at hl 1 rfl) ?_
      refine va_get (D := D) (ci := 8) (v := .int (sRo.1 5)) (C := RX9) (T := TX9) (N := 19) hx hb hts iX9 hown hK hP ((4 + 9) + 0) (rwr (lnA ln_Ne ln_Nc) o_Ro) rfl 5 (by decide) (htl _ (mB48 _ (List.mem_of_getElem? (i := 20) rfl))) (fun _ h9 => h9) rfl dX5_goOn_9 ?_
      refine lv_icmp_ge (tgt := 69) hx hb dX5_goOn_12 (by decide) (fun c1 => ?_) (fun c1 => ?_)
      · have hf := it_t hf c1
        refine lv_iload hx hb dX5_goOn_69 (lv_at hl 4 rfl) ?_
        obtain ⟨g2, hf⟩ := gd_s hf
        have e9 := Option.some.inj hf
        rw [hQ]
        exact W.zret (v := x4) hx hb hr (bob_s g2) (fun t ht hW => ⟨⟨x4, sNc, rfl, ⟨pr1 e9, pr2 e9⟩, ⟨by rw [ht]; exact hP, va_K.moved hW.alike hK, hD⟩⟩, hS.F ht⟩) hS.2.2 dX5_goOn_71
      · have hf := it_f hf c1
        refine lv_aload_n hx hb dX5_goOn_15 rfl (lv_at hl 1 rfl) ?_
        refine lv_iload_n hx hb dX5_goOn_16 rfl (lv_at hl 2 rfl) ?_
        refine lv_iload hx hb dX5_goOn_17 (lv_at hl 5 rfl) ?_
        obtain ⟨o3, go3, hf⟩ := bd_s hf
        refine ro_Vi (As := [.int p2, .int x5]) (rest := []) ⟨hx, hb, hml, hown, hts⟩ (c_X9_isRoad l D K F hRo sRo p2 x5 o3 go3) (cwV 2 hts (gcV_X9_isRoad (mB49 _ (List.mem_of_getElem? (i := 16) rfl))) rfl rfl rfl hdV_X9_isRoad ⟨Nat.le_of_ble_eq_true rfl, Nat.le_of_ble_eq_true rfl⟩) hK hP hS (va_PL (cs := [wNe K hNe hNc sNe, wNc K hNc sNc, wRo K hRo sRo]) (cc := [wRo K hRo sRo]) hP (fl3 _ _ _) [2] rfl (fl1 _)) (va_recv hK hP (ci := 8) (q0 := ((4 + 9) + 0)) rfl (rwr (lnA ln_Ne ln_Nc) o_Ro)) rfl hl.1 rfl (Nat.le_of_ble_eq_true rfl) dX5_goOn_19 ⟨Nat.zero_le _, Nat.zero_le _⟩ (fun H locs hP hS => ?_)
        refine lv_if_eq (tgt := 63) hx hb dX5_goOn_22 (by decide) (fun c4 => ?_) (fun c4 => ?_)
        · have hf := it_t hf c4
          exact w63 (f_X5_goOn_6 F sNe sRo p2 p3 n) ih x4 x5 sNc H locs ls hf hP hD hS (lv_sub hl [0, 1, 2, 3, 4, 5] rfl)
        · have hf := it_f hf c4
          refine lv_aload_n hx hb dX5_goOn_25 rfl (lv_at hl 0 rfl) ?_
          refine lv_aload_n hx hb dX5_goOn_26 rfl (lv_at hl 1 rfl) ?_
          refine lv_iload_n hx hb dX5_goOn_27 rfl (lv_at hl 2 rfl) ?_
          refine lv_iload hx hb dX5_goOn_28 (lv_at hl 5 rfl) ?_
          refine lv_iload_n hx hb dX5_goOn_30 rfl (lv_at hl 3 rfl) ?_
          refine lv_if_eq (tgt := 44) hx hb dX5_goOn_31 (by decide) (fun c5 => ?_) (fun c5 => ?_)
          · have hf := it_t hf c5
            refine lv_iconst (v := (0 : Int32)) hx hb dX5_goOn_44 (by decide) ?_
            exact w45 (f_X5_goOn_6 F sNe sRo p2 p3 n) ih x4 x5 p2 x5 (0 : Int32) sNc H locs ls hf hP hD hS (lv_sub hl [0, 1, 2, 3, 4, 5] rfl)
          · have hf := it_f hf c5
            refine lv_aload_n hx hb dX5_goOn_34 rfl (lv_at hl 1 rfl) ?_
            refine lv_iload_n hx hb dX5_goOn_35 rfl (lv_at hl 2 rfl) ?_
            refine lv_iload hx hb dX5_goOn_36 (lv_at hl 5 rfl) ?_
            obtain ⟨o6, go6, hf⟩ := bd_s hf
            refine ro_Vi (As := [.int p2, .int x5]) (rest := [.int x5, .int p2, .ref (hRo 99), .ref (hNe 99)]) ⟨hx, hb, hml, hown, hts⟩ (c_X9_minutesOf l D K F hRo sRo p2 x5 o6 go6) (cwV 2 hts (gcV_X9_minutesOf (mB49 _ (List.mem_of_getElem? (i := 17) rfl))) rfl rfl rfl hdV_X9_minutesOf ⟨Nat.le_of_ble_eq_true rfl, Nat.le_of_ble_eq_true rfl⟩) hK hP hS (va_PL (cs := [wNe K hNe hNc sNe, wNc K hNc sNc, wRo K hRo sRo]) (cc := [wRo K hRo sRo]) hP (fl3 _ _ _) [2] rfl (fl1 _)) (va_recv hK hP (ci := 8) (q0 := ((4 + 9) + 0)) rfl (rwr (lnA ln_Ne ln_Nc) o_Ro)) rfl hl.1 rfl (Nat.le_of_ble_eq_true rfl) dX5_goOn_38 ⟨Nat.zero_le _, Nat.zero_le _⟩ (fun H locs hP hS => ?_)
            refine lv_goto (tgt := 45) hx hb dX5_goOn_41 (by decide) ?_
            exact w45 (f_X5_goOn_6 F sNe sRo p2 p3 n) ih x4 x5 p2 x5 o6 sNc H locs ls hf hP hD hS (lv_sub hl [0, 1, 2, 3, 4, 5] rfl)
  have hen : entryFrame m args 6 = entryFrame m (([.ref (hNe 99), .ref (hRo 99), .int p2, .int p3] : List Value).toArray) 6 := by rw [hargs]
  have hl := lv_entry ([.ref (hNe 99), .ref (hRo 99), .int p2, .int p3]) (n := 6) (Nat.le_of_ble_eq_true rfl)
  rw [hen, lg_entry_eq]
  generalize (lg_sl ([.ref (hNe 99), .ref (hRo 99), .int p2, .int p3]) ++ List.replicate (6 - (lg_sl ([.ref (hNe 99), .ref (hRo 99), .int p2, .int p3])).length) Slot.unset).toArray = ls at hl ⊢
  have hl : lv_has ls 6 [(0, .ref (hNe 99)), (1, .ref (hRo 99)), (2, .int p2), (3, .int p3)] := hl
  unfold f_X5_goOn at hf
  obtain ⟨H, hHe⟩ : ∃ z, z = s.heap := ⟨_, rfl⟩
  obtain ⟨locs, hLe⟩ : ∃ z : List Loc, z = [] := ⟨_, rfl⟩
  rw [← hLe]
  have hS : va_S A s.heap H locs := by rw [hHe, hLe]; exact hS
  have hP : va_P D vwCl (wNe K hNe hNc sNe ++ wNc K hNc sNc ++ wRo K hRo sRo) H := by rw [hHe]; exact hP
  have hgo : W p l e (headSpec wz_X5_goOn r_X5_goOn).room s m args below meth c H locs 0 0 Q (F0 m 0 ls []) := by
    refine lv_iconst (v := (0 : Int32)) hx hb dX5_goOn_0 (by decide) ?_
    refine lv_istore (lv' := [(4, .int (0 : Int32)), (0, .ref (hNe 99)), (1, .ref (hRo 99)), (2, .int p2), (3, .int p3)]) hx hb dX5_goOn_1 hl (by decide) rfl (fun ls hl => ?_)
    refine lv_iconst (v := (0 : Int32)) hx hb dX5_goOn_3 (by decide) ?_
    refine lv_istore (lv' := [(5, .int (0 : Int32)), (4, .int (0 : Int32)), (0, .ref (hNe 99)), (1, .ref (hRo 99)), (2, .int p2), (3, .int p3)]) hx hb dX5_goOn_4 hl (by decide) rfl (fun ls hl => ?_)
    exact w6 F (0 : Int32) (0 : Int32) sNc H locs ls hf hP hD hS (lv_sub hl [2, 3, 4, 5, 1, 0] rfl)
  rw [hHe] at hgo
  exact hgo

theorem gcV_X9_start {T0 : Cond} {own : String} {i : Nat} (h : Cond.methodLink own i yX9_start ∈ wsL_law) : GoodIn (T0 :: wsL_law) (wsV own i RX9 yX9_start wz_X9_start) := gV h (mB16 _ (List.mem_of_getElem? (i := 17) rfl)) (mB16 _ (List.mem_of_getElem? (i := 18) rfl)) (mB1 _ (List.mem_of_getElem? (i := 17) rfl)) (mB16 _ (List.mem_of_getElem? (i := 19) rfl))
theorem hdV_X9_start : yX9_start.cls = RX9 ∧ yX9_start.cls ≠ "java/lang/invoke/MethodHandle" ∧ yX9_start.cls ≠ "java/lang/invoke/VarHandle" ∧ (parseMethodDescriptor yX9_start.desc).map (fun d => d.parameters.length) = some 0 := by decide +kernel
theorem gcV_X5_stopAt {T0 : Cond} {own : String} {i : Nat} (h : Cond.methodLink own i yX5_stopAt ∈ wsL_law) : GoodIn (T0 :: wsL_law) (wsV own i RX5 yX5_stopAt wz_X5_stopAt) := gV h (mB49 _ (List.mem_of_getElem? (i := 6) rfl)) (mB49 _ (List.mem_of_getElem? (i := 7) rfl)) (mB2 _ (List.mem_of_getElem? (i := 10) rfl)) (mB49 _ (List.mem_of_getElem? (i := 8) rfl))
theorem hdV_X5_stopAt : yX5_stopAt.cls = RX5 ∧ yX5_stopAt.cls ≠ "java/lang/invoke/MethodHandle" ∧ yX5_stopAt.cls ≠ "java/lang/invoke/VarHandle" ∧ (parseMethodDescriptor yX5_stopAt.desc).map (fun d => d.parameters.length) = some 3 := by decide +kernel
theorem gcV_X5_goOn {T0 : Cond} {own : String} {i : Nat} (h : Cond.methodLink own i yX5_goOn ∈ wsL_law) : GoodIn (T0 :: wsL_law) (wsV own i RX5 yX5_goOn wz_X5_goOn) := gV h (mB49 _ (List.mem_of_getElem? (i := 13) rfl)) (mB49 _ (List.mem_of_getElem? (i := 14) rfl)) (mB2 _ (List.mem_of_getElem? (i := 10) rfl)) (mB49 _ (List.mem_of_getElem? (i := 15) rfl))
theorem hdV_X5_goOn : yX5_goOn.cls = RX5 ∧ yX5_goOn.cls ≠ "java/lang/invoke/MethodHandle" ∧ yX5_goOn.cls ≠ "java/lang/invoke/VarHandle" ∧ (parseMethodDescriptor yX5_goOn.desc).map (fun d => d.parameters.length) = some 3 := by decide +kernel
theorem gcV_X9_goal {T0 : Cond} {own : String} {i : Nat} (h : Cond.methodLink own i yX9_goal ∈ wsL_law) : GoodIn (T0 :: wsL_law) (wsV own i RX9 yX9_goal wz_X9_goal) := gV h (mB50 _ (List.mem_of_getElem? (i := 0) rfl)) (mB50 _ (List.mem_of_getElem? (i := 1) rfl)) (mB1 _ (List.mem_of_getElem? (i := 17) rfl)) (mB50 _ (List.mem_of_getElem? (i := 2) rfl))
theorem hdV_X9_goal : yX9_goal.cls = RX9 ∧ yX9_goal.cls ≠ "java/lang/invoke/MethodHandle" ∧ yX9_goal.cls ≠ "java/lang/invoke/VarHandle" ∧ (parseMethodDescriptor yX9_goal.desc).map (fun d => d.parameters.length) = some 0 := by decide +kernel
def wz_X5_least : List Cond := .code yX5_least cX5_least 6 (some .int) :: wsL_law
abbrev r_X5_least : Room := { frames := 3, cells := 0, slots := 0, locals := 75 }
set_option maxHeartbeats 4000000 in
set_option maxRecDepth 100000 in
theorem c_X5_least (l : Launch) (D : va_G) (K : Nat → ClassId) (F : Nat) (hNe : Nat → Nat) (hNc : Nat → Nat) (hRo : Nat → Nat) (sz : Nat) (sNe : MS) (sNc : MS) (sRo : MS) (p2 : Int32) (res : Int32 × MS × MS) (hf : f_X5_least F sRo p2 sNe sNc = some res) : Met l yX5_least wz_X5_least r_X5_least (va_Pc [.ref (hNe 99), .ref (hRo 99), .int p2] (PW D K (wNe K hNe hNc sNe ++ wNc K hNc sNc ++ wRo K hRo sRo) sz)) (va_Qi (fun r u => r = res.1 ∧ u = res.2) (fun u t => BW D K (va_A (wNe K hNe hNc sNe ++ wNc K hNc sNc ++ wRo K hRo sRo) sz) (wNe K hNe hNc u.1 ++ wNc K hNc u.2 ++ wRo K hRo sRo) t) (va_A (wNe K hNe hNc sNe ++ wNc K hNc sNc ++ wRo K hRo sRo) sz)) 0 0 (va_A (wNe K hNe hNc sNe ++ wNc K hNc sNc ++ wRo K hRo sRo) sz) := by
  refine Met.ofW (cc := cX5_least) (maxL := 6) (ret := (some .int)) (by decide) rfl ?_
  intro p e s m args below meth c s₁ B hml hv
  obtain ⟨hargs, hsz, hP, hK, hD0⟩ := hv
  have hx := B.exec
  have hb := B.bytes
  have hr := B.returns
  have hts := atoms_spec (ws := wz_X5_least) B.pre
  have htl : ∀ w ∈ wsL_law, w.before args s = true := fun w h => hts w (List.mem_cons_of_mem _ h)
  have hown : s.vm.findClass RX5 = some m.cls := findClass_of_methodNamed B.named
  have hlocks := B.notSynchronized
  subst hsz
  have hD := hD0.self (sz := s.heap.size)
  generalize hAe : va_A (wNe K hNe hNc sNe ++ wNc K hNc sNc ++ wRo K hRo sRo) s.heap.size = A at hD ⊢
  have hA : ∀ q : Nat, s.heap.size ≤ q → A q := fun q h => by rw [← hAe]; exact Or.inr h
  have hS : va_S A s.heap s.heap [] := va_S.rf
  have iX5 : ∀ w ∈ wsX50, w ∈ wz_X5_least := fun w h => List.mem_cons_of_mem _ (inlX5 w h)
  have iX9 : ∀ w ∈ wsX90, w ∈ wz_X5_least := fun w h => List.mem_cons_of_mem _ (inlX9 w h)
  suffices hgo : ∀ Q : State → Prop, Q = MQ below (va_Qi (fun r u => r = res.1 ∧ u = res.2) (fun u t => BW D K A (wNe K hNe hNc u.1 ++ wNc K hNc u.2 ++ wRo K hRo sRo) t) A) args s 0 0 A → W p l e (headSpec wz_X5_least r_X5_least).room s m args below meth c s.heap [] 0 0 Q (entryFrame m args 6) from hgo _ rfl
  intro Q hQ
  have w155 : ∀ (x4 : Int32), ∀ (sNe : MS), ∀ (sNc : MS), ∀ (H : Heap) (locs : List Loc) (ls : Array Slot), f_X5_least_155 F sRo p2 x4 sNe sNc = some res → va_P D vwCl (wNe K hNe hNc sNe ++ wNc K hNc sNc ++ wRo K hRo sRo) H → va_D A (wNe K hNe hNc sNe ++ wNc K hNc sNc ++ wRo K hRo sRo) → va_S A s.heap H locs → lv_has ls 6 [(4, .int x4)] → W p l e (headSpec wz_X5_least r_X5_least).room s m args below meth c H locs 0 0 Q (F0 m 155 ls []) := by
    intro x4 sNe sNc H locs ls hf hP hD hS hl
    unfold f_X5_least_155 at hf
    refine lv_iload hx hb dX5_least_155 (lv_at hl 0 rfl) ?_
    refine lv_ldc (v := (268435456 : Int32)) hx hb hown (htl _ (mB48 _ (List.mem_of_getElem? (i := 21) rfl))) dX5_least_157 ?_
    refine lv_icmp_ne (tgt := 167) hx hb dX5_least_159 (by decide) (fun c26 => ?_) (fun c26 => ?_)
    · have hf := it_f hf c26
      refine lv_iload hx hb dX5_least_167 (lv_at hl 0 rfl) ?_
      have e9 := Option.some.inj hf
      rw [hQ]
      exact W.iret (v := x4) hx hb hr (fun t ht hW => ⟨⟨x4, (sNe, sNc), rfl, ⟨pr1 e9, pr2 e9⟩, ⟨by rw [ht]; exact hP, va_K.moved hW.alike hK, hD⟩⟩, hS.F ht⟩) hS.2.2 dX5_least_169
    · have hf := it_t hf c26
      refine lv_bipush (v := (-2 : Int32)) hx hb dX5_least_162 (by decide) ?_
      refine lv_goto (tgt := 169) hx hb dX5_least_164 (by decide) ?_
      have e9 := Option.some.inj hf
      rw [hQ]
      exact W.iret (v := (-2 : Int32)) hx hb hr (fun t ht hW => ⟨⟨(-2 : Int32), (sNe, sNc), rfl, ⟨pr1 e9, pr2 e9⟩, ⟨by rw [ht]; exact hP, va_K.moved hW.alike hK, hD⟩⟩, hS.F ht⟩) hS.2.2 dX5_least_169
  have w121 : ∀ (n : Nat), ∀ (x4 : Int32), ∀ (x5 : Int32), ∀ (sNe : MS), ∀ (sNc : MS), ∀ (H : Heap) (locs : List Loc) (ls : Array Slot), f_X5_least_121 F sRo p2 n x4 x5 sNe sNc = some res → va_P D vwCl (wNe K hNe hNc sNe ++ wNc K hNc sNc ++ wRo K hRo sRo) H → va_D A (wNe K hNe hNc sNe ++ wNc K hNc sNc ++ wRo K hRo sRo) → va_S A s.heap H locs → lv_has ls 6 [(0, .ref (hNe 99)), (1, .ref (hRo 99)), (4, .int x4), (5, .int x5)] → W p l e (headSpec wz_X5_least r_X5_least).room s m args below meth c H locs 0 0 Q (F0 m 121 ls []) := by
    intro n
    induction n with
    | zero =>
      intro x4 x5 sNe sNc H locs ls hf
      exact absurd (show none = some res from hf) (fun h => nomatch h)
    | succ n ih =>
      intro x4 x5 sNe sNc H locs ls hf hP hD hS hl
      rw [f_X5_least_121] at hf
      refine lv_iload hx hb dX5_least_121 (lv_at hl 3 rfl) ?_
      refine lv_aload_n hx hb dX5_least_123 rfl (lv_at hl 1 rfl) ?_
      refine va_get (D := D) (ci := 8) (v := .int (sRo.1 0)) (C := RX9) (T := TX9) (N := 19) hx hb hts iX9 hown hK hP ((4 + 9) + 0) (rwr (lnA ln_Ne ln_Nc) o_Ro) rfl 0 (by decide) (htl _ (mB48 _ (List.mem_of_getElem? (i := 23) rfl))) (fun _ h9 => h9) rfl dX5_least_124 ?_
      refine lv_icmp_gt (tgt := 155) hx hb dX5_least_127 (by decide) (fun c19 => ?_) (fun c19 => ?_)
      · have hf := it_t hf c19
        exact w155 x4 sNe sNc H locs ls hf hP hD hS (lv_sub hl [2] rfl)
      · have hf := it_f hf c19
        refine lv_iload hx hb dX5_least_130 (lv_at hl 2 rfl) ?_
        refine lv_aload_n hx hb dX5_least_132 rfl (lv_at hl 0 rfl) ?_
        refine va_get (D := D) (ci := 4) (v := .ref (hNe 0)) (C := RX5) (T := TX5) (N := 3) hx hb hts iX5 hown hK hP 0 (rwl (rwl o_Ne)) rfl 0 (by decide) (htl _ (mB4 _ (List.mem_of_getElem? (i := 23) rfl))) (fun _ h9 => h9) rfl dX5_least_133 ?_
        refine lv_aload_n hx hb dX5_least_136 rfl (lv_at hl 1 rfl) ?_
        obtain ⟨o20, go20, hf⟩ := bd_s hf
        refine ro_Vi (As := []) (rest := [.ref (hNe 0), .int x4]) ⟨hx, hb, hml, hown, hts⟩ (c_X9_goal l D K F hRo sRo o20 go20) (cwV 0 hts (gcV_X9_goal (mB49 _ (List.mem_of_getElem? (i := 23) rfl))) rfl rfl rfl hdV_X9_goal ⟨Nat.le_of_ble_eq_true rfl, Nat.le_of_ble_eq_true rfl⟩) hK hP hS (va_PL (cs := [wNe K hNe hNc sNe, wNc K hNc sNc, wRo K hRo sRo]) (cc := [wRo K hRo sRo]) hP (fl3 _ _ _) [2] rfl (fl1 _)) (va_recv hK hP (ci := 8) (q0 := ((4 + 9) + 0)) rfl (rwr (lnA ln_Ne ln_Nc) o_Ro)) rfl hl.1 rfl (Nat.le_of_ble_eq_true rfl) dX5_least_137 ⟨Nat.zero_le _, Nat.zero_le _⟩ (fun H locs hP hS => ?_)
        obtain ⟨g21, hf⟩ := gd_s hf
        refine va_ald2 (r := hNc o20.toNatClampNeg) hx hb hK hP 1 3 (rwl (rwl a_Ne_0)) rfl (vpb_in g21) (if_pos (vpb_lt g21)) dX5_least_140 ?_
        refine lv_iload hx hb dX5_least_141 (lv_at hl 3 rfl) ?_
        obtain ⟨g22, hf⟩ := gd_s hf
        refine va_iald hx hb hK hP (4 + o20.toNatClampNeg) 0 (f := sNc.2.2.1 o20.toNatClampNeg) (rwl (rwr (n := 4) rfl (wNc_r o20.toNatClampNeg (vpb_lt g21)))) rfl (vpb_in g22) dX5_least_143 ?_
        refine lv_topi (fun v23 ev23 => ?_)
        have hf := lz_s hf v23 ev23
        refine va_mmin hx hb (hml.trans hl.1.symm) hown (htl _ (mB49 _ (List.mem_of_getElem? (i := 0) rfl))) (htl _ (mB49 _ (List.mem_of_getElem? (i := 1) rfl))) (htl _ (mB9 _ (List.mem_of_getElem? (i := 9) rfl))) (htl _ (mB49 _ (List.mem_of_getElem? (i := 2) rfl))) (Nat.le_of_ble_eq_true rfl) (Nat.le_of_ble_eq_true rfl) (Nat.zero_le _) (Nat.zero_le _) dX5_least_144 ?_
        refine lv_topi (fun v24 ev24 => ?_)
        have hf := lz_s hf v24 ev24
        refine lv_istore (lv' := [(4, .int v24), (0, .ref (hNe 99)), (1, .ref (hRo 99)), (5, .int x5)]) hx hb dX5_least_147 hl (by decide) rfl (fun ls hl => ?_)
        obtain ⟨v25, ev25⟩ : ∃ z : Int32, z = x5 + (1 : Int32) := ⟨_, rfl⟩
        have hf := lz_s hf v25 ev25
        refine lv_iinc (v := v25) (lv' := [(5, .int v25), (4, .int v24), (0, .ref (hNe 99)), (1, .ref (hRo 99))]) hx hb dX5_least_149 hl (k := 3) rfl (by rw [ev25]; rfl) (by decide) rfl (fun ls hl => ?_)
        refine lv_goto (tgt := 121) hx hb dX5_least_152 (by decide) ?_
        exact ih v24 v25 sNe sNc H locs ls hf hP hD hS (lv_sub hl [2, 3, 1, 0] rfl)
  have w114 : ∀ (sNe : MS), ∀ (sNc : MS), ∀ (H : Heap) (locs : List Loc) (ls : Array Slot), f_X5_least_114 F sRo p2 sNe sNc = some res → va_P D vwCl (wNe K hNe hNc sNe ++ wNc K hNc sNc ++ wRo K hRo sRo) H → va_D A (wNe K hNe hNc sNe ++ wNc K hNc sNc ++ wRo K hRo sRo) → va_S A s.heap H locs → lv_has ls 6 [(0, .ref (hNe 99)), (1, .ref (hRo 99))] → W p l e (headSpec wz_X5_least r_X5_least).room s m args below meth c H locs 0 0 Q (F0 m 114 ls []) := by
    intro sNe sNc H locs ls hf hP hD hS hl
    unfold f_X5_least_114 at hf
    refine lv_ldc (v := (268435456 : Int32)) hx hb hown (htl _ (mB48 _ (List.mem_of_getElem? (i := 21) rfl))) dX5_least_114 ?_
    refine lv_istore (lv' := [(4, .int (268435456 : Int32)), (0, .ref (hNe 99)), (1, .ref (hRo 99))]) hx hb dX5_least_116 hl (by decide) rfl (fun ls hl => ?_)
    refine lv_iconst (v := (0 : Int32)) hx hb dX5_least_118 (by decide) ?_
    refine lv_istore (lv' := [(5, .int (0 : Int32)), (4, .int (268435456 : Int32)), (0, .ref (hNe 99)), (1, .ref (hRo 99))]) hx hb dX5_least_119 hl (by decide) rfl (fun ls hl => ?_)
    exact w121 F (268435456 : Int32) (0 : Int32) sNe sNc H locs ls hf hP hD hS (lv_sub hl [2, 3, 1, 0] rfl)
  have w108 : ∀ (k47 : Int32 → Int32 → MS → MS → Option (Int32 × MS × MS)), (∀ (x3 : Int32), ∀ (x4 : Int32), ∀ (sNe : MS), ∀ (sNc : MS), ∀ (H : Heap) (locs : List Loc) (ls : Array Slot), k47 x3 x4 sNe sNc = some res → va_P D vwCl (wNe K hNe hNc sNe ++ wNc K hNc sNc ++ wRo K hRo sRo) H → va_D A (wNe K hNe hNc sNe ++ wNc K hNc sNc ++ wRo K hRo sRo) → va_S A s.heap H locs → lv_has ls 6 [(0, .ref (hNe 99)), (1, .ref (hRo 99)), (2, .int p2), (3, .int x3), (4, .int x4)] → W p l e (headSpec wz_X5_least r_X5_least).room s m args below meth c H locs 0 0 Q (F0 m 47 ls [])) → ∀ (x3 : Int32), ∀ (x4 : Int32), ∀ (sNe : MS), ∀ (sNc : MS), ∀ (H : Heap) (locs : List Loc) (ls : Array Slot), f_X5_least_108 F sRo p2 k47 x3 x4 sNe sNc = some res → va_P D vwCl (wNe K hNe hNc sNe ++ wNc K hNc sNc ++ wRo K hRo sRo) H → va_D A (wNe K hNe hNc sNe ++ wNc K hNc sNc ++ wRo K hRo sRo) → va_S A s.heap H locs → lv_has ls 6 [(0, .ref (hNe 99)), (1, .ref (hRo 99)), (2, .int p2), (3, .int x3), (4, .int x4)] → W p l e (headSpec wz_X5_least r_X5_least).room s m args below meth c H locs 0 0 Q (F0 m 108 ls []) := by
    intro k47 hk47 x3 x4 sNe sNc H locs ls hf hP hD hS hl
    unfold f_X5_least_108 at hf
    obtain ⟨v18, ev18⟩ : ∃ z : Int32, z = x4 + (1 : Int32) := ⟨_, rfl⟩
    have hf := lz_s hf v18 ev18
    refine lv_iinc (v := v18) (lv' := [(4, .int v18), (0, .ref (hNe 99)), (1, .ref (hRo 99)), (2, .int p2), (3, .int x3)]) hx hb dX5_least_108 hl (k := 4) rfl (by rw [ev18]; rfl) (by decide) rfl (fun ls hl => ?_)
    refine lv_goto (tgt := 47) hx hb dX5_least_111 (by decide) ?_
    exact hk47 x3 v18 sNe sNc H locs ls hf hP hD hS (lv_sub hl [1, 2, 3, 4, 0] rfl)
  have w101 : ∀ (k64 : Int32 → Int32 → Int32 → MS → MS → Option (Int32 × MS × MS)), (∀ (x3 : Int32), ∀ (x4 : Int32), ∀ (x5 : Int32), ∀ (sNe : MS), ∀ (sNc : MS), ∀ (H : Heap) (locs : List Loc) (ls : Array Slot), k64 x3 x4 x5 sNe sNc = some res → va_P D vwCl (wNe K hNe hNc sNe ++ wNc K hNc sNc ++ wRo K hRo sRo) H → va_D A (wNe K hNe hNc sNe ++ wNc K hNc sNc ++ wRo K hRo sRo) → va_S A s.heap H locs → lv_has ls 6 [(0, .ref (hNe 99)), (1, .ref (hRo 99)), (2, .int p2), (3, .int x3), (4, .int x4), (5, .int x5)] → W p l e (headSpec wz_X5_least r_X5_least).room s m args below meth c H locs 0 0 Q (F0 m 64 ls [])) → ∀ (x4 : Int32), ∀ (x5 : Int32), ∀ (y0 : Int32), ∀ (sNe : MS), ∀ (sNc : MS), ∀ (H : Heap) (locs : List Loc) (ls : Array Slot), f_X5_least_101 F sRo p2 k64 x4 x5 y0 sNe sNc = some res → va_P D vwCl (wNe K hNe hNc sNe ++ wNc K hNc sNc ++ wRo K hRo sRo) H → va_D A (wNe K hNe hNc sNe ++ wNc K hNc sNc ++ wRo K hRo sRo) → va_S A s.heap H locs → lv_has ls 6 [(0, .ref (hNe 99)), (1, .ref (hRo 99)), (2, .int p2), (4, .int x4), (5, .int x5)] → W p l e (headSpec wz_X5_least r_X5_least).room s m args below meth c H locs 0 0 Q (F0 m 101 ls [.int y0]) := by
    intro k64 hk64 x4 x5 y0 sNe sNc H locs ls hf hP hD hS hl
    unfold f_X5_least_101 at hf
    refine lv_istore_n (lv' := [(3, .int y0), (0, .ref (hNe 99)), (1, .ref (hRo 99)), (2, .int p2), (4, .int x4), (5, .int x5)]) hx hb dX5_least_101 rfl hl (by decide) rfl (fun ls hl => ?_)
    obtain ⟨v17, ev17⟩ : ∃ z : Int32, z = x5 + (1 : Int32) := ⟨_, rfl⟩
    have hf := lz_s hf v17 ev17
    refine lv_iinc (v := v17) (lv' := [(5, .int v17), (3, .int y0), (0, .ref (hNe 99)), (1, .ref (hRo 99)), (2, .int p2), (4, .int x4)]) hx hb dX5_least_102 hl (k := 5) rfl (by rw [ev17]; rfl) (by decide) rfl (fun ls hl => ?_)
    refine lv_goto (tgt := 64) hx hb dX5_least_105 (by decide) ?_
    exact hk64 y0 x4 v17 sNe sNc H locs ls hf hP hD hS (lv_sub hl [2, 3, 4, 1, 5, 0] rfl)
  have w96 : ∀ (k64 : Int32 → Int32 → Int32 → MS → MS → Option (Int32 × MS × MS)), (∀ (x3 : Int32), ∀ (x4 : Int32), ∀ (x5 : Int32), ∀ (sNe : MS), ∀ (sNc : MS), ∀ (H : Heap) (locs : List Loc) (ls : Array Slot), k64 x3 x4 x5 sNe sNc = some res → va_P D vwCl (wNe K hNe hNc sNe ++ wNc K hNc sNc ++ wRo K hRo sRo) H → va_D A (wNe K hNe hNc sNe ++ wNc K hNc sNc ++ wRo K hRo sRo) → va_S A s.heap H locs → lv_has ls 6 [(0, .ref (hNe 99)), (1, .ref (hRo 99)), (2, .int p2), (3, .int x3), (4, .int x4), (5, .int x5)] → W p l e (headSpec wz_X5_least r_X5_least).room s m args below meth c H locs 0 0 Q (F0 m 64 ls [])) → ∀ (x4 : Int32), ∀ (x5 : Int32), ∀ (sNe : MS), ∀ (sNc : MS), ∀ (H : Heap) (locs : List Loc) (ls : Array Slot), f_X5_least_96 F sRo p2 k64 x4 x5 sNe sNc = some res → va_P D vwCl (wNe K hNe hNc sNe ++ wNc K hNc sNc ++ wRo K hRo sRo) H → va_D A (wNe K hNe hNc sNe ++ wNc K hNc sNc ++ wRo K hRo sRo) → va_S A s.heap H locs → lv_has ls 6 [(0, .ref (hNe 99)), (1, .ref (hRo 99)), (2, .int p2), (4, .int x4), (5, .int x5)] → W p l e (headSpec wz_X5_least r_X5_least).room s m args below meth c H locs 0 0 Q (F0 m 96 ls []) := by
    intro k64 hk64 x4 x5 sNe sNc H locs ls hf hP hD hS hl
    unfold f_X5_least_96 at hf
    refine lv_iconst (v := (1 : Int32)) hx hb dX5_least_96 (by decide) ?_
    refine lv_goto (tgt := 101) hx hb dX5_least_97 (by decide) ?_
    exact w101 k64 hk64 x4 x5 (1 : Int32) sNe sNc H locs ls hf hP hD hS (lv_sub hl [0, 1, 2, 3, 4] rfl)
  have w64 : ∀ (k47 : Int32 → Int32 → MS → MS → Option (Int32 × MS × MS)), (∀ (x3 : Int32), ∀ (x4 : Int32), ∀ (sNe : MS), ∀ (sNc : MS), ∀ (H : Heap) (locs : List Loc) (ls : Array Slot), k47 x3 x4 sNe sNc = some res → va_P D vwCl (wNe K hNe hNc sNe ++ wNc K hNc sNc ++ wRo K hRo sRo) H → va_D A (wNe K hNe hNc sNe ++ wNc K hNc sNc ++ wRo K hRo sRo) → va_S A s.heap H locs → lv_has ls 6 [(0, .ref (hNe 99)), (1, .ref (hRo 99)), (2, .int p2), (3, .int x3), (4, .int x4)] → W p l e (headSpec wz_X5_least r_X5_least).room s m args below meth c H locs 0 0 Q (F0 m 47 ls [])) → ∀ (n : Nat), ∀ (x3 : Int32), ∀ (x4 : Int32), ∀ (x5 : Int32), ∀ (sNe : MS), ∀ (sNc : MS), ∀ (H : Heap) (locs : List Loc) (ls : Array Slot), f_X5_least_64 F sRo p2 k47 n x3 x4 x5 sNe sNc = some res → va_P D vwCl (wNe K hNe hNc sNe ++ wNc K hNc sNc ++ wRo K hRo sRo) H → va_D A (wNe K hNe hNc sNe ++ wNc K hNc sNc ++ wRo K hRo sRo) → va_S A s.heap H locs → lv_has ls 6 [(0, .ref (hNe 99)), (1, .ref (hRo 99)), (2, .int p2), (3, .int x3), (4, .int x4), (5, .int x5)] → W p l e (headSpec wz_X5_least r_X5_least).room s m args below meth c H locs 0 0 Q (F0 m 64 ls []) := by
    intro k47 hk47 n
    induction n with
    | zero =>
      intro x3 x4 x5 sNe sNc H locs ls hf
      exact absurd (show none = some res from hf) (fun h => nomatch h)
    | succ n ih =>
      intro x3 x4 x5 sNe sNc H locs ls hf hP hD hS hl
      rw [f_X5_least_64] at hf
      refine lv_iload hx hb dX5_least_64 (lv_at hl 5 rfl) ?_
      refine lv_aload_n hx hb dX5_least_66 rfl (lv_at hl 1 rfl) ?_
      refine va_get (D := D) (ci := 8) (v := .int (sRo.1 5)) (C := RX9) (T := TX9) (N := 19) hx hb hts iX9 hown hK hP ((4 + 9) + 0) (rwr (lnA ln_Ne ln_Nc) o_Ro) rfl 5 (by decide) (htl _ (mB48 _ (List.mem_of_getElem? (i := 20) rfl))) (fun _ h9 => h9) rfl dX5_least_67 ?_
      refine lv_icmp_ge (tgt := 108) hx hb dX5_least_70 (by decide) (fun c12 => ?_) (fun c12 => ?_)
      · have hf := it_t hf c12
        exact w108 k47 hk47 x3 x4 sNe sNc H locs ls hf hP hD hS (lv_sub hl [0, 1, 2, 3, 4] rfl)
      · have hf := it_f hf c12
        refine lv_aload_n hx hb dX5_least_73 rfl (lv_at hl 0 rfl) ?_
        refine lv_aload_n hx hb dX5_least_74 rfl (lv_at hl 1 rfl) ?_
        refine lv_iload hx hb dX5_least_75 (lv_at hl 5 rfl) ?_
        refine lv_iload_n hx hb dX5_least_77 rfl (lv_at hl 2 rfl) ?_
        obtain ⟨o13, go13, hf⟩ := bd_s hf
        refine rs_Vv (As := [.ref (hRo 99), .int x5, .int p2]) (rest := []) ⟨hx, hb, hml, hown, hts⟩ (c_X5_stopAt l D K F hNe hNc hRo H.size sNe sNc sRo x5 p2 o13 go13) (cwV 3 hts (gcV_X5_stopAt (mB49 _ (List.mem_of_getElem? (i := 5) rfl))) rfl rfl rfl hdV_X5_stopAt ⟨Nat.le_of_ble_eq_true rfl, Nat.le_of_ble_eq_true rfl⟩) hK hP hD hS hA (va_recv hK hP (ci := 4) (q0 := 0) rfl (rwl (rwl o_Ne))) rfl hl.1 rfl (Nat.le_of_ble_eq_true rfl) dX5_least_78 ⟨Nat.zero_le _, Nat.zero_le _⟩ (fun H locs hP hD hS => ?_)
        have hP : va_P D vwCl (wNe K hNe hNc o13 ++ wNc K hNc sNc ++ wRo K hRo sRo) H := hP
        have hD : va_D A (wNe K hNe hNc o13 ++ wNc K hNc sNc ++ wRo K hRo sRo) := hD
        refine lv_aload_n hx hb dX5_least_81 rfl (lv_at hl 0 rfl) ?_
        refine lv_aload_n hx hb dX5_least_82 rfl (lv_at hl 1 rfl) ?_
        refine lv_iload hx hb dX5_least_83 (lv_at hl 5 rfl) ?_
        refine lv_iload_n hx hb dX5_least_85 rfl (lv_at hl 2 rfl) ?_
        obtain ⟨o14, go14, hf⟩ := bd_s hf
        refine rs_Vi (As := [.ref (hRo 99), .int x5, .int p2]) (rest := []) ⟨hx, hb, hml, hown, hts⟩ (c_X5_goOn l D K F hNe hNc hRo H.size o13 sNc sRo x5 p2 o14 go14) (cwV 3 hts (gcV_X5_goOn (mB49 _ (List.mem_of_getElem? (i := 12) rfl))) rfl rfl rfl hdV_X5_goOn ⟨Nat.le_of_ble_eq_true rfl, Nat.le_of_ble_eq_true rfl⟩) hK hP hD hS hA (va_recv hK hP (ci := 4) (q0 := 0) rfl (rwl (rwl o_Ne))) rfl hl.1 rfl (Nat.le_of_ble_eq_true rfl) dX5_least_86 ⟨Nat.zero_le _, Nat.zero_le _⟩ (fun H locs hP hD hS => ?_)
        have hP : va_P D vwCl (wNe K hNe hNc o13 ++ wNc K hNc o14.2 ++ wRo K hRo sRo) H := hP
        have hD : va_D A (wNe K hNe hNc o13 ++ wNc K hNc o14.2 ++ wRo K hRo sRo) := hD
        refine lv_if_ne (tgt := 96) hx hb dX5_least_89 (by decide) (fun c15 => ?_) (fun c15 => ?_)
        · have hf := it_f hf c15
          exact w96 (f_X5_least_64 F sRo p2 k47 n) ih x4 x5 o13 o14.2 H locs ls hf hP hD hS (lv_sub hl [0, 1, 2, 4, 5] rfl)
        · have hf := it_t hf c15
          refine lv_iload_n hx hb dX5_least_92 rfl (lv_at hl 3 rfl) ?_
          refine lv_if_eq (tgt := 100) hx hb dX5_least_93 (by decide) (fun c16 => ?_) (fun c16 => ?_)
          · have hf := it_t hf c16
            refine lv_iconst (v := (0 : Int32)) hx hb dX5_least_100 (by decide) ?_
            exact w101 (f_X5_least_64 F sRo p2 k47 n) ih x4 x5 (0 : Int32) o13 o14.2 H locs ls hf hP hD hS (lv_sub hl [0, 1, 2, 4, 5] rfl)
          · have hf := it_f hf c16
            exact w96 (f_X5_least_64 F sRo p2 k47 n) ih x4 x5 o13 o14.2 H locs ls hf hP hD hS (lv_sub hl [0, 1, 2, 4, 5] rfl)
  have w47 : ∀ (n : Nat), ∀ (x3 : Int32), ∀ (x4 : Int32), ∀ (sNe : MS), ∀ (sNc : MS), ∀ (H : Heap) (locs : List Loc) (ls : Array Slot), f_X5_least_47 F sRo p2 n x3 x4 sNe sNc = some res → va_P D vwCl (wNe K hNe hNc sNe ++ wNc K hNc sNc ++ wRo K hRo sRo) H → va_D A (wNe K hNe hNc sNe ++ wNc K hNc sNc ++ wRo K hRo sRo) → va_S A s.heap H locs → lv_has ls 6 [(0, .ref (hNe 99)), (1, .ref (hRo 99)), (2, .int p2), (3, .int x3), (4, .int x4)] → W p l e (headSpec wz_X5_least r_X5_least).room s m args below meth c H locs 0 0 Q (F0 m 47 ls []) := by
    intro n
    induction n with
    | zero =>
      intro x3 x4 sNe sNc H locs ls hf
      exact absurd (show none = some res from hf) (fun h => nomatch h)
    | succ n ih =>
      intro x3 x4 sNe sNc H locs ls hf hP hD hS hl
      rw [f_X5_least_47] at hf
      refine lv_iload_n hx hb dX5_least_47 rfl (lv_at hl 3 rfl) ?_
      refine lv_if_eq (tgt := 114) hx hb dX5_least_48 (by decide) (fun c10 => ?_) (fun c10 => ?_)
      · have hf := it_t hf c10
        exact w114 sNe sNc H locs ls hf hP hD hS (lv_sub hl [0, 1] rfl)
      · have hf := it_f hf c10
        refine lv_iload hx hb dX5_least_51 (lv_at hl 4 rfl) ?_
        refine lv_sipush (v := (369 : Int32)) hx hb dX5_least_53 (by decide) ?_
        refine lv_icmp_ge (tgt := 114) hx hb dX5_least_56 (by decide) (fun c11 => ?_) (fun c11 => ?_)
        · have hf := it_t hf c11
          exact w114 sNe sNc H locs ls hf hP hD hS (lv_sub hl [0, 1] rfl)
        · have hf := it_f hf c11
          refine lv_iconst (v := (0 : Int32)) hx hb dX5_least_59 (by decide) ?_
          refine lv_istore_n (lv' := [(3, .int (0 : Int32)), (0, .ref (hNe 99)), (1, .ref (hRo 99)), (2, .int p2), (4, .int x4)]) hx hb dX5_least_60 rfl hl (by decide) rfl (fun ls hl => ?_)
          refine lv_iconst (v := (0 : Int32)) hx hb dX5_least_61 (by decide) ?_
          refine lv_istore (lv' := [(5, .int (0 : Int32)), (3, .int (0 : Int32)), (0, .ref (hNe 99)), (1, .ref (hRo 99)), (2, .int p2), (4, .int x4)]) hx hb dX5_least_62 hl (by decide) rfl (fun ls hl => ?_)
          exact w64 (f_X5_least_47 F sRo p2 n) ih F (0 : Int32) x4 (0 : Int32) sNe sNc H locs ls hf hP hD hS (lv_sub hl [2, 3, 4, 1, 5, 0] rfl)
  have w27 : ∀ (sNe : MS), ∀ (sNc : MS), ∀ (H : Heap) (locs : List Loc) (ls : Array Slot), f_X5_least_27 F sRo p2 sNe sNc = some res → va_P D vwCl (wNe K hNe hNc sNe ++ wNc K hNc sNc ++ wRo K hRo sRo) H → va_D A (wNe K hNe hNc sNe ++ wNc K hNc sNc ++ wRo K hRo sRo) → va_S A s.heap H locs → lv_has ls 6 [(0, .ref (hNe 99)), (1, .ref (hRo 99)), (2, .int p2)] → W p l e (headSpec wz_X5_least r_X5_least).room s m args below meth c H locs 0 0 Q (F0 m 27 ls []) := by
    intro sNe sNc H locs ls hf hP hD hS hl
    unfold f_X5_least_27 at hf
    refine lv_aload_n hx hb dX5_least_27 rfl (lv_at hl 0 rfl) ?_
    refine va_get (D := D) (ci := 4) (v := .ref (hNe 0)) (C := RX5) (T := TX5) (N := 3) hx hb hts iX5 hown hK hP 0 (rwl (rwl o_Ne)) rfl 0 (by decide) (htl _ (mB4 _ (List.mem_of_getElem? (i := 23) rfl))) (fun _ h9 => h9) rfl dX5_least_28 ?_
    refine lv_aload_n hx hb dX5_least_31 rfl (lv_at hl 1 rfl) ?_
    obtain ⟨o6, go6, hf⟩ := bd_s hf
    refine ro_Vi (As := []) (rest := [.ref (hNe 0)]) ⟨hx, hb, hml, hown, hts⟩ (c_X9_start l D K F hRo sRo o6 go6) (cwV 0 hts (gcV_X9_start (mB49 _ (List.mem_of_getElem? (i := 4) rfl))) rfl rfl rfl hdV_X9_start ⟨Nat.le_of_ble_eq_true rfl, Nat.le_of_ble_eq_true rfl⟩) hK hP hS (va_PL (cs := [wNe K hNe hNc sNe, wNc K hNc sNc, wRo K hRo sRo]) (cc := [wRo K hRo sRo]) hP (fl3 _ _ _) [2] rfl (fl1 _)) (va_recv hK hP (ci := 8) (q0 := ((4 + 9) + 0)) rfl (rwr (lnA ln_Ne ln_Nc) o_Ro)) rfl hl.1 rfl (Nat.le_of_ble_eq_true rfl) dX5_least_32 ⟨Nat.zero_le _, Nat.zero_le _⟩ (fun H locs hP hS => ?_)
    obtain ⟨g7, hf⟩ := gd_s hf
    refine va_ald2 (r := hNc o6.toNatClampNeg) hx hb hK hP 1 3 (rwl (rwl a_Ne_0)) rfl (vpb_in g7) (if_pos (vpb_lt g7)) dX5_least_35 ?_
    refine lv_aload_n hx hb dX5_least_36 rfl (lv_at hl 1 rfl) ?_
    refine va_get (D := D) (ci := 8) (v := .int (sRo.1 1)) (C := RX9) (T := TX9) (N := 19) hx hb hts iX9 hown hK hP ((4 + 9) + 0) (rwr (lnA ln_Ne ln_Nc) o_Ro) rfl 1 (by decide) (htl _ (mB48 _ (List.mem_of_getElem? (i := 22) rfl))) (fun _ h9 => h9) rfl dX5_least_37 ?_
    refine lv_iconst (v := (0 : Int32)) hx hb dX5_least_40 (by decide) ?_
    obtain ⟨g8, hf⟩ := gd_s hf
    refine va_iast hx hb hK hP hD hS (4 + o6.toNatClampNeg) 0 (f := sNc.2.2.1 o6.toNatClampNeg) (rwl (rwr (n := 4) rfl (wNc_r o6.toNatClampNeg (vpb_lt g7)))) rfl (vpb_in g8) dX5_least_41 (fun H locs hP hD hS => ?_)
    rw [stl (str (n := 4) rfl (wNc_w o6.toNatClampNeg (vpb_lt g7))) (rlt (rwr (n := 4) rfl (wNc_r o6.toNatClampNeg (vpb_lt g7))))] at hP hD
    obtain ⟨s9, es9⟩ : ∃ z, z = sA sNc o6.toNatClampNeg ((sRo.1 1).toNatClampNeg) (0 : Int32) := ⟨_, rfl⟩
    have hP : va_P D vwCl (wNe K hNe hNc sNe ++ wNc K hNc s9 ++ wRo K hRo sRo) H := by rw [es9]; exact hP
    have hD : va_D A (wNe K hNe hNc sNe ++ wNc K hNc s9 ++ wRo K hRo sRo) := by rw [es9]; exact hD
    have hf := lz_s hf s9 es9
    refine lv_iconst (v := (1 : Int32)) hx hb dX5_least_42 (by decide) ?_
    refine lv_istore_n (lv' := [(3, .int (1 : Int32)), (0, .ref (hNe 99)), (1, .ref (hRo 99)), (2, .int p2)]) hx hb dX5_least_43 rfl hl (by decide) rfl (fun ls hl => ?_)
    refine lv_iconst (v := (0 : Int32)) hx hb dX5_least_44 (by decide) ?_
    refine lv_istore (lv' := [(4, .int (0 : Int32)), (3, .int (1 : Int32)), (0, .ref (hNe 99)), (1, .ref (hRo 99)), (2, .int p2)]) hx hb dX5_least_45 hl (by decide) rfl (fun ls hl => ?_)
    exact w47 F (1 : Int32) (0 : Int32) sNe s9 H locs ls hf hP hD hS (lv_sub hl [2, 3, 4, 1, 0] rfl)
  have w2 : ∀ (n : Nat), ∀ (x3 : Int32), ∀ (sNe : MS), ∀ (sNc : MS), ∀ (H : Heap) (locs : List Loc) (ls : Array Slot), f_X5_least_2 F sRo p2 n x3 sNe sNc = some res → va_P D vwCl (wNe K hNe hNc sNe ++ wNc K hNc sNc ++ wRo K hRo sRo) H → va_D A (wNe K hNe hNc sNe ++ wNc K hNc sNc ++ wRo K hRo sRo) → va_S A s.heap H locs → lv_has ls 6 [(0, .ref (hNe 99)), (1, .ref (hRo 99)), (2, .int p2), (3, .int x3)] → W p l e (headSpec wz_X5_least r_X5_least).room s m args below meth c H locs 0 0 Q (F0 m 2 ls []) := by
    intro n
    induction n with
    | zero =>
      intro x3 sNe sNc H locs ls hf
      exact absurd (show none = some res from hf) (fun h => nomatch h)
    | succ n ih =>
      intro x3 sNe sNc H locs ls hf hP hD hS hl
      rw [f_X5_least_2] at hf
      refine lv_iload_n hx hb dX5_least_2 rfl (lv_at hl 3 rfl) ?_
      refine lv_aload_n hx hb dX5_least_3 rfl (lv_at hl 1 rfl) ?_
      refine va_get (D := D) (ci := 8) (v := .int (sRo.1 5)) (C := RX9) (T := TX9) (N := 19) hx hb hts iX9 hown hK hP ((4 + 9) + 0) (rwr (lnA ln_Ne ln_Nc) o_Ro) rfl 5 (by decide) (htl _ (mB48 _ (List.mem_of_getElem? (i := 20) rfl))) (fun _ h9 => h9) rfl dX5_least_4 ?_
      refine lv_icmp_ge (tgt := 27) hx hb dX5_least_7 (by decide) (fun c1 => ?_) (fun c1 => ?_)
      · have hf := it_t hf c1
        exact w27 sNe sNc H locs ls hf hP hD hS (lv_sub hl [0, 1, 2] rfl)
      · have hf := it_f hf c1
        refine lv_aload_n hx hb dX5_least_10 rfl (lv_at hl 0 rfl) ?_
        refine va_get (D := D) (ci := 4) (v := .ref (hNe 0)) (C := RX5) (T := TX5) (N := 3) hx hb hts iX5 hown hK hP 0 (rwl (rwl o_Ne)) rfl 0 (by decide) (htl _ (mB4 _ (List.mem_of_getElem? (i := 23) rfl))) (fun _ h9 => h9) rfl dX5_least_11 ?_
        refine lv_iload_n hx hb dX5_least_14 rfl (lv_at hl 3 rfl) ?_
        obtain ⟨g2, hf⟩ := gd_s hf
        refine va_ald2 (r := hNc x3.toNatClampNeg) hx hb hK hP 1 3 (rwl (rwl a_Ne_0)) rfl (vpb_in g2) (if_pos (vpb_lt g2)) dX5_least_15 ?_
        refine lv_ldc (v := (268435456 : Int32)) hx hb hown (htl _ (mB48 _ (List.mem_of_getElem? (i := 21) rfl))) dX5_least_16 ?_
        obtain ⟨o3, go3, hf⟩ := bd_s hf
        refine rd_Sv (wn := wNe K hNe hNc sNe ++ wNc K hNc (wA sNc x3.toNatClampNeg o3) ++ wRo K hRo sRo) (As := [.ref (hNc x3.toNatClampNeg), .int (268435456 : Int32)]) (rest := []) ⟨hx, hb, hml, hown, hts⟩ (c_J7_fill_53178 l D K F (hNc x3.toNatClampNeg) 41 H.size (sNc.2.2.1 x3.toNatClampNeg) (268435456 : Int32) o3 go3) (va_cwS 2 hts (gcS_J7_fill_53178 (mB49 _ (List.mem_of_getElem? (i := 3) rfl))) rfl rfl rfl hdS_J7_fill_53178 ⟨Nat.le_of_ble_eq_true rfl, Nat.le_of_ble_eq_true rfl⟩) hK hP hD hS hA ([(4 + x3.toNatClampNeg)]) (map1 (rwl (rwr (n := 4) rfl (wNc_r x3.toNatClampNeg (vpb_lt g2))))) ((show ∀ j9, j9 < 9 → va_nd ([(4 + j9)]) = true by decide) _ (vpb_lt g2)) rfl (show (wNe K hNe hNc sNe ++ wNc K hNc sNc ++ wRo K hRo sRo).set (4 + x3.toNatClampNeg) (hNc x3.toNatClampNeg, .inl (K 0, 41, .inl o3)) = _ from stl (str (n := 4) rfl (wNc_w x3.toNatClampNeg (vpb_lt g2))) (rlt (rwr (n := 4) rfl (wNc_r x3.toNatClampNeg (vpb_lt g2))))) rfl hl.1 rfl (Nat.le_of_ble_eq_true rfl) dX5_least_18 ⟨Nat.zero_le _, Nat.zero_le _⟩ (fun H locs hP hD hS => ?_)
        obtain ⟨s4, es4⟩ : ∃ z, z = (wA sNc x3.toNatClampNeg o3) := ⟨_, rfl⟩
        have hP : va_P D vwCl (wNe K hNe hNc sNe ++ wNc K hNc s4 ++ wRo K hRo sRo) H := by rw [es4]; exact hP
        have hD : va_D A (wNe K hNe hNc sNe ++ wNc K hNc s4 ++ wRo K hRo sRo) := by rw [es4]; exact hD
        have hf := lz_s hf s4 es4
        obtain ⟨v5, ev5⟩ : ∃ z : Int32, z = x3 + (1 : Int32) := ⟨_, rfl⟩
        have hf := lz_s hf v5 ev5
        refine lv_iinc (v := v5) (lv' := [(3, .int v5), (0, .ref (hNe 99)), (1, .ref (hRo 99)), (2, .int p2)]) hx hb dX5_least_21 hl (k := 3) rfl (by rw [ev5]; rfl) (by decide) rfl (fun ls hl => ?_)
        refine lv_goto (tgt := 2) hx hb dX5_least_24 (by decide) ?_
        exact ih v5 sNe s4 H locs ls hf hP hD hS (lv_sub hl [1, 2, 3, 0] rfl)
  have hen : entryFrame m args 6 = entryFrame m (([.ref (hNe 99), .ref (hRo 99), .int p2] : List Value).toArray) 6 := by rw [hargs]
  have hl := lv_entry ([.ref (hNe 99), .ref (hRo 99), .int p2]) (n := 6) (Nat.le_of_ble_eq_true rfl)
  rw [hen, lg_entry_eq]
  generalize (lg_sl ([.ref (hNe 99), .ref (hRo 99), .int p2]) ++ List.replicate (6 - (lg_sl ([.ref (hNe 99), .ref (hRo 99), .int p2])).length) Slot.unset).toArray = ls at hl ⊢
  have hl : lv_has ls 6 [(0, .ref (hNe 99)), (1, .ref (hRo 99)), (2, .int p2)] := hl
  unfold f_X5_least at hf
  obtain ⟨H, hHe⟩ : ∃ z, z = s.heap := ⟨_, rfl⟩
  obtain ⟨locs, hLe⟩ : ∃ z : List Loc, z = [] := ⟨_, rfl⟩
  rw [← hLe]
  have hS : va_S A s.heap H locs := by rw [hHe, hLe]; exact hS
  have hP : va_P D vwCl (wNe K hNe hNc sNe ++ wNc K hNc sNc ++ wRo K hRo sRo) H := by rw [hHe]; exact hP
  have hgo : W p l e (headSpec wz_X5_least r_X5_least).room s m args below meth c H locs 0 0 Q (F0 m 0 ls []) := by
    refine lv_iconst (v := (0 : Int32)) hx hb dX5_least_0 (by decide) ?_
    refine lv_istore_n (lv' := [(3, .int (0 : Int32)), (0, .ref (hNe 99)), (1, .ref (hRo 99)), (2, .int p2)]) hx hb dX5_least_1 rfl hl (by decide) rfl (fun ls hl => ?_)
    exact w2 F (0 : Int32) sNe sNc H locs ls hf hP hD hS (lv_sub hl [1, 2, 3, 0] rfl)
  rw [hHe] at hgo
  exact hgo

def wz_X5_fillNext : List Cond := .code yX5_fillNext cX5_fillNext 6 (some .boolean) :: wsL_law
abbrev r_X5_fillNext : Room := { frames := 2, cells := 0, slots := 0, locals := 44 }
set_option maxHeartbeats 4000000 in
set_option maxRecDepth 100000 in
theorem c_X5_fillNext (l : Launch) (D : va_G) (K : Nat → ClassId) (F : Nat) (hNe : Nat → Nat) (gNe0 : Nat → Nat) (hRo : Nat → Nat) (sz : Nat) (sNe : MS) (sRo : MS) (p2 : Int32) (res : Int32 × MS) (hf : f_X5_fillNext F sRo p2 sNe = some res) : Met l yX5_fillNext wz_X5_fillNext r_X5_fillNext (va_Pc [.ref (hNe 99), .ref (hRo 99), .int p2] (PW D K (wNe K hNe gNe0 sNe ++ wRo K hRo sRo) sz)) (va_Qi (fun r u => r = res.1 ∧ u = res.2) (fun u t => BW D K (va_A (wNe K hNe gNe0 sNe ++ wRo K hRo sRo) sz) (wNe K hNe gNe0 u ++ wRo K hRo sRo) t) (va_A (wNe K hNe gNe0 sNe ++ wRo K hRo sRo) sz)) 0 0 (va_A (wNe K hNe gNe0 sNe ++ wRo K hRo sRo) sz) := by
  refine Met.ofW (cc := cX5_fillNext) (maxL := 6) (ret := (some .boolean)) (by decide) rfl ?_
  intro p e s m args below meth c s₁ B hml hv
  obtain ⟨hargs, hsz, hP, hK, hD0⟩ := hv
  have hx := B.exec
  have hb := B.bytes
  have hr := B.returns
  have hts := atoms_spec (ws := wz_X5_fillNext) B.pre
  have htl : ∀ w ∈ wsL_law, w.before args s = true := fun w h => hts w (List.mem_cons_of_mem _ h)
  have hown : s.vm.findClass RX5 = some m.cls := findClass_of_methodNamed B.named
  have hlocks := B.notSynchronized
  subst hsz
  have hD := hD0.self (sz := s.heap.size)
  generalize hAe : va_A (wNe K hNe gNe0 sNe ++ wRo K hRo sRo) s.heap.size = A at hD ⊢
  have hA : ∀ q : Nat, s.heap.size ≤ q → A q := fun q h => by rw [← hAe]; exact Or.inr h
  have hS : va_S A s.heap s.heap [] := va_S.rf
  have iX5 : ∀ w ∈ wsX50, w ∈ wz_X5_fillNext := fun w h => List.mem_cons_of_mem _ (inlX5 w h)
  have iX9 : ∀ w ∈ wsX90, w ∈ wz_X5_fillNext := fun w h => List.mem_cons_of_mem _ (inlX9 w h)
  suffices hgo : ∀ Q : State → Prop, Q = MQ below (va_Qi (fun r u => r = res.1 ∧ u = res.2) (fun u t => BW D K A (wNe K hNe gNe0 u ++ wRo K hRo sRo) t) A) args s 0 0 A → W p l e (headSpec wz_X5_fillNext r_X5_fillNext).room s m args below meth c s.heap [] 0 0 Q (entryFrame m args 6) from hgo _ rfl
  intro Q hQ
  have w96 : ∀ (k5 : Int32 → Int32 → MS → Option (Int32 × MS)), (∀ (x3 : Int32), ∀ (x4 : Int32), ∀ (sNe : MS), ∀ (H : Heap) (locs : List Loc) (ls : Array Slot), k5 x3 x4 sNe = some res → va_P D vwCl (wNe K hNe gNe0 sNe ++ wRo K hRo sRo) H → va_D A (wNe K hNe gNe0 sNe ++ wRo K hRo sRo) → va_S A s.heap H locs → lv_has ls 6 [(0, .ref (hNe 99)), (1, .ref (hRo 99)), (2, .int p2), (3, .int x3), (4, .int x4)] → W p l e (headSpec wz_X5_fillNext r_X5_fillNext).room s m args below meth c H locs 0 0 Q (F0 m 5 ls [])) → ∀ (x3 : Int32), ∀ (x4 : Int32), ∀ (sNe : MS), ∀ (H : Heap) (locs : List Loc) (ls : Array Slot), f_X5_fillNext_96 F sRo p2 k5 x3 x4 sNe = some res → va_P D vwCl (wNe K hNe gNe0 sNe ++ wRo K hRo sRo) H → va_D A (wNe K hNe gNe0 sNe ++ wRo K hRo sRo) → va_S A s.heap H locs → lv_has ls 6 [(0, .ref (hNe 99)), (1, .ref (hRo 99)), (2, .int p2), (3, .int x3), (4, .int x4)] → W p l e (headSpec wz_X5_fillNext r_X5_fillNext).room s m args below meth c H locs 0 0 Q (F0 m 96 ls []) := by
    intro k5 hk5 x3 x4 sNe H locs ls hf hP hD hS hl
    unfold f_X5_fillNext_96 at hf
    obtain ⟨v17, ev17⟩ : ∃ z : Int32, z = x4 + (1 : Int32) := ⟨_, rfl⟩
    have hf := lz_s hf v17 ev17
    refine lv_iinc (v := v17) (lv' := [(4, .int v17), (0, .ref (hNe 99)), (1, .ref (hRo 99)), (2, .int p2), (3, .int x3)]) hx hb dX5_fillNext_96 hl (k := 4) rfl (by rw [ev17]; rfl) (by decide) rfl (fun ls hl => ?_)
    refine lv_goto (tgt := 5) hx hb dX5_fillNext_99 (by decide) ?_
    exact hk5 x3 v17 sNe H locs ls hf hP hD hS (lv_sub hl [1, 2, 3, 4, 0] rfl)
  have w71 : ∀ (k5 : Int32 → Int32 → MS → Option (Int32 × MS)), (∀ (x3 : Int32), ∀ (x4 : Int32), ∀ (sNe : MS), ∀ (H : Heap) (locs : List Loc) (ls : Array Slot), k5 x3 x4 sNe = some res → va_P D vwCl (wNe K hNe gNe0 sNe ++ wRo K hRo sRo) H → va_D A (wNe K hNe gNe0 sNe ++ wRo K hRo sRo) → va_S A s.heap H locs → lv_has ls 6 [(0, .ref (hNe 99)), (1, .ref (hRo 99)), (2, .int p2), (3, .int x3), (4, .int x4)] → W p l e (headSpec wz_X5_fillNext r_X5_fillNext).room s m args below meth c H locs 0 0 Q (F0 m 5 ls [])) → ∀ (x3 : Int32), ∀ (x4 : Int32), ∀ (y0 : Int32), ∀ (sNe : MS), ∀ (H : Heap) (locs : List Loc) (ls : Array Slot), f_X5_fillNext_71 F sRo p2 k5 x3 x4 y0 sNe = some res → va_P D vwCl (wNe K hNe gNe0 sNe ++ wRo K hRo sRo) H → va_D A (wNe K hNe gNe0 sNe ++ wRo K hRo sRo) → va_S A s.heap H locs → lv_has ls 6 [(0, .ref (hNe 99)), (1, .ref (hRo 99)), (2, .int p2), (3, .int x3), (4, .int x4)] → W p l e (headSpec wz_X5_fillNext r_X5_fillNext).room s m args below meth c H locs 0 0 Q (F0 m 71 ls [.int y0]) := by
    intro k5 hk5 x3 x4 y0 sNe H locs ls hf hP hD hS hl
    unfold f_X5_fillNext_71 at hf
    refine lv_istore (lv' := [(5, .int y0), (0, .ref (hNe 99)), (1, .ref (hRo 99)), (2, .int p2), (3, .int x3), (4, .int x4)]) hx hb dX5_fillNext_71 hl (by decide) rfl (fun ls hl => ?_)
    refine lv_iload hx hb dX5_fillNext_73 (lv_at hl 0 rfl) ?_
    refine lv_aload_n hx hb dX5_fillNext_75 rfl (lv_at hl 1 rfl) ?_
    refine va_get (D := D) (ci := 4) (v := .ref (hNe 2)) (C := RX5) (T := TX5) (N := 3) hx hb hts iX5 hown hK hP 0 (rwl o_Ne) rfl 2 (by decide) (htl _ (mB5 _ (List.mem_of_getElem? (i := 1) rfl))) (fun _ h9 => h9) rfl dX5_fillNext_76 ?_
    refine lv_iload hx hb dX5_fillNext_79 (lv_at hl 5 rfl) ?_
    obtain ⟨g13, hf⟩ := gd_s hf
    refine va_iald hx hb hK hP 3 0 (f := sNe.2.2.1 2) (rwl a_Ne_2) rfl (vpb_in g13) dX5_fillNext_81 ?_
    refine lv_icmp_le (tgt := 96) hx hb dX5_fillNext_82 (by decide) (fun c14 => ?_) (fun c14 => ?_)
    · have hf := it_t hf c14
      exact w96 k5 hk5 x3 x4 sNe H locs ls hf hP hD hS (lv_sub hl [1, 2, 3, 4, 5] rfl)
    · have hf := it_f hf c14
      refine lv_aload_n hx hb dX5_fillNext_85 rfl (lv_at hl 1 rfl) ?_
      refine va_get (D := D) (ci := 4) (v := .ref (hNe 2)) (C := RX5) (T := TX5) (N := 3) hx hb hts iX5 hown hK hP 0 (rwl o_Ne) rfl 2 (by decide) (htl _ (mB5 _ (List.mem_of_getElem? (i := 1) rfl))) (fun _ h9 => h9) rfl dX5_fillNext_86 ?_
      refine lv_iload hx hb dX5_fillNext_89 (lv_at hl 5 rfl) ?_
      refine lv_iload hx hb dX5_fillNext_91 (lv_at hl 0 rfl) ?_
      obtain ⟨g15, hf⟩ := gd_s hf
      refine va_iast hx hb hK hP hD hS 3 0 (f := sNe.2.2.1 2) (rwl a_Ne_2) rfl (vpb_in g15) dX5_fillNext_93 (fun H locs hP hD hS => ?_)
      have hP := cvP (stl sa_Ne_2 (rlt a_Ne_2)) hP
      have hD := cvD (stl sa_Ne_2 (rlt a_Ne_2)) hD
      obtain ⟨s16, es16⟩ : ∃ z, z = sA sNe 2 x4.toNatClampNeg y0 := ⟨_, rfl⟩
      have hP : va_P D vwCl (wNe K hNe gNe0 s16 ++ wRo K hRo sRo) H := by rw [es16]; exact hP
      have hD : va_D A (wNe K hNe gNe0 s16 ++ wRo K hRo sRo) := by rw [es16]; exact hD
      have hf := lz_s hf s16 es16
      refine lv_iconst (v := (1 : Int32)) hx hb dX5_fillNext_94 (by decide) ?_
      refine lv_istore_n (lv' := [(3, .int (1 : Int32)), (5, .int y0), (0, .ref (hNe 99)), (1, .ref (hRo 99)), (2, .int p2), (4, .int x4)]) hx hb dX5_fillNext_95 rfl hl (by decide) rfl (fun ls hl => ?_)
      exact w96 k5 hk5 (1 : Int32) x4 s16 H locs ls hf hP hD hS (lv_sub hl [2, 3, 4, 0, 5] rfl)
  have w5 : ∀ (n : Nat), ∀ (x3 : Int32), ∀ (x4 : Int32), ∀ (sNe : MS), ∀ (H : Heap) (locs : List Loc) (ls : Array Slot), f_X5_fillNext_5 F sRo p2 n x3 x4 sNe = some res → va_P D vwCl (wNe K hNe gNe0 sNe ++ wRo K hRo sRo) H → va_D A (wNe K hNe gNe0 sNe ++ wRo K hRo sRo) → va_S A s.heap H locs → lv_has ls 6 [(0, .ref (hNe 99)), (1, .ref (hRo 99)), (2, .int p2), (3, .int x3), (4, .int x4)] → W p l e (headSpec wz_X5_fillNext r_X5_fillNext).room s m args below meth c H locs 0 0 Q (F0 m 5 ls []) := by
    intro n
    induction n with
    | zero =>
      intro x3 x4 sNe H locs ls hf
      exact absurd (show none = some res from hf) (fun h => nomatch h)
    | succ n ih =>
      intro x3 x4 sNe H locs ls hf hP hD hS hl
      rw [f_X5_fillNext_5] at hf
      refine lv_iload hx hb dX5_fillNext_5 (lv_at hl 4 rfl) ?_
      refine lv_aload_n hx hb dX5_fillNext_7 rfl (lv_at hl 1 rfl) ?_
      refine va_get (D := D) (ci := 8) (v := .int (sRo.1 5)) (C := RX9) (T := TX9) (N := 19) hx hb hts iX9 hown hK hP (4 + 0) (rwr ln_Ne o_Ro) rfl 5 (by decide) (htl _ (mB48 _ (List.mem_of_getElem? (i := 20) rfl))) (fun _ h9 => h9) rfl dX5_fillNext_8 ?_
      refine lv_icmp_ge (tgt := 102) hx hb dX5_fillNext_11 (by decide) (fun c1 => ?_) (fun c1 => ?_)
      · have hf := it_t hf c1
        refine lv_iload_n hx hb dX5_fillNext_102 rfl (lv_at hl 3 rfl) ?_
        obtain ⟨g2, hf⟩ := gd_s hf
        have e9 := Option.some.inj hf
        rw [hQ]
        exact W.zret (v := x3) hx hb hr (bob_s g2) (fun t ht hW => ⟨⟨x3, sNe, rfl, ⟨pr1 e9, pr2 e9⟩, ⟨by rw [ht]; exact hP, va_K.moved hW.alike hK, hD⟩⟩, hS.F ht⟩) hS.2.2 dX5_fillNext_103
      · have hf := it_f hf c1
        refine lv_aload_n hx hb dX5_fillNext_14 rfl (lv_at hl 1 rfl) ?_
        refine lv_iload_n hx hb dX5_fillNext_15 rfl (lv_at hl 2 rfl) ?_
        refine lv_iload hx hb dX5_fillNext_16 (lv_at hl 4 rfl) ?_
        obtain ⟨o3, go3, hf⟩ := bd_s hf
        refine ro_Vi (As := [.int p2, .int x4]) (rest := []) ⟨hx, hb, hml, hown, hts⟩ (c_X9_isRoad l D K F hRo sRo p2 x4 o3 go3) (cwV 2 hts (gcV_X9_isRoad (mB49 _ (List.mem_of_getElem? (i := 16) rfl))) rfl rfl rfl hdV_X9_isRoad ⟨Nat.le_of_ble_eq_true rfl, Nat.le_of_ble_eq_true rfl⟩) hK hP hS (va_PL (cs := [wNe K hNe gNe0 sNe, wRo K hRo sRo]) (cc := [wRo K hRo sRo]) hP (fl2 _ _) [1] rfl (fl1 _)) (va_recv hK hP (ci := 8) (q0 := (4 + 0)) rfl (rwr ln_Ne o_Ro)) rfl hl.1 rfl (Nat.le_of_ble_eq_true rfl) dX5_fillNext_18 ⟨Nat.zero_le _, Nat.zero_le _⟩ (fun H locs hP hS => ?_)
        refine lv_if_eq (tgt := 96) hx hb dX5_fillNext_21 (by decide) (fun c4 => ?_) (fun c4 => ?_)
        · have hf := it_t hf c4
          exact w96 (f_X5_fillNext_5 F sRo p2 n) ih x3 x4 sNe H locs ls hf hP hD hS (lv_sub hl [0, 1, 2, 3, 4] rfl)
        · have hf := it_f hf c4
          refine lv_aload_n hx hb dX5_fillNext_24 rfl (lv_at hl 0 rfl) ?_
          refine va_get (D := D) (ci := 4) (v := .ref (hNe 2)) (C := RX5) (T := TX5) (N := 3) hx hb hts iX5 hown hK hP 0 (rwl o_Ne) rfl 2 (by decide) (htl _ (mB5 _ (List.mem_of_getElem? (i := 1) rfl))) (fun _ h9 => h9) rfl dX5_fillNext_25 ?_
          refine lv_iload_n hx hb dX5_fillNext_28 rfl (lv_at hl 2 rfl) ?_
          obtain ⟨g5, hf⟩ := gd_s hf
          refine va_iald hx hb hK hP 3 0 (f := sNe.2.2.1 2) (rwl a_Ne_2) rfl (vpb_in g5) dX5_fillNext_29 ?_
          refine lv_aload_n hx hb dX5_fillNext_30 rfl (lv_at hl 1 rfl) ?_
          refine lv_iload_n hx hb dX5_fillNext_31 rfl (lv_at hl 2 rfl) ?_
          refine lv_iload hx hb dX5_fillNext_32 (lv_at hl 4 rfl) ?_
          obtain ⟨o6, go6, hf⟩ := bd_s hf
          refine ro_Vi (As := [.int p2, .int x4]) (rest := [.int (sNe.2.2.1 2 p2.toNatClampNeg)]) ⟨hx, hb, hml, hown, hts⟩ (c_X9_pintsOf l D K F hRo sRo p2 x4 o6 go6) (cwV 2 hts (gcV_X9_pintsOf (mB49 _ (List.mem_of_getElem? (i := 22) rfl))) rfl rfl rfl hdV_X9_pintsOf ⟨Nat.le_of_ble_eq_true rfl, Nat.le_of_ble_eq_true rfl⟩) hK hP hS (va_PL (cs := [wNe K hNe gNe0 sNe, wRo K hRo sRo]) (cc := [wRo K hRo sRo]) hP (fl2 _ _) [1] rfl (fl1 _)) (va_recv hK hP (ci := 8) (q0 := (4 + 0)) rfl (rwr ln_Ne o_Ro)) rfl hl.1 rfl (Nat.le_of_ble_eq_true rfl) dX5_fillNext_34 ⟨Nat.zero_le _, Nat.zero_le _⟩ (fun H locs hP hS => ?_)
          refine lv_icmp_lt (tgt := 96) hx hb dX5_fillNext_37 (by decide) (fun c7 => ?_) (fun c7 => ?_)
          · have hf := it_t hf c7
            exact w96 (f_X5_fillNext_5 F sRo p2 n) ih x3 x4 sNe H locs ls hf hP hD hS (lv_sub hl [0, 1, 2, 3, 4] rfl)
          · have hf := it_f hf c7
            refine lv_aload_n hx hb dX5_fillNext_40 rfl (lv_at hl 1 rfl) ?_
            refine va_get (D := D) (ci := 8) (v := .ref (hRo 12)) (C := RX9) (T := TX9) (N := 19) hx hb hts iX9 hown hK hP (4 + 0) (rwr ln_Ne o_Ro) rfl 12 (by decide) (htl _ (mB49 _ (List.mem_of_getElem? (i := 9) rfl))) (fun _ h9 => h9) rfl dX5_fillNext_41 ?_
            refine lv_iload hx hb dX5_fillNext_44 (lv_at hl 4 rfl) ?_
            obtain ⟨g8, hf⟩ := gd_s hf
            refine va_iald hx hb hK hP (4 + 3) 0 (f := sRo.2.2.1 12) (rwr ln_Ne a_Ro_12) rfl (vpb_in g8) dX5_fillNext_46 ?_
            refine lv_topi (fun v9 ev9 => ?_)
            have hf := lz_s hf v9 ev9
            refine lv_if_le (tgt := 57) hx hb dX5_fillNext_47 (by decide) (fun c10 => ?_) (fun c10 => ?_)
            · have hf := it_t hf c10
              refine lv_aload_n hx hb dX5_fillNext_57 rfl (lv_at hl 0 rfl) ?_
              refine va_get (D := D) (ci := 4) (v := .ref (hNe 2)) (C := RX5) (T := TX5) (N := 3) hx hb hts iX5 hown hK hP 0 (rwl o_Ne) rfl 2 (by decide) (htl _ (mB5 _ (List.mem_of_getElem? (i := 1) rfl))) (fun _ h9 => h9) rfl dX5_fillNext_58 ?_
              refine lv_iload_n hx hb dX5_fillNext_61 rfl (lv_at hl 2 rfl) ?_
              obtain ⟨g11, hf⟩ := gd_s hf
              refine va_iald hx hb hK hP 3 0 (f := sNe.2.2.1 2) (rwl a_Ne_2) rfl (vpb_in g11) dX5_fillNext_62 ?_
              refine lv_aload_n hx hb dX5_fillNext_63 rfl (lv_at hl 1 rfl) ?_
              refine lv_iload_n hx hb dX5_fillNext_64 rfl (lv_at hl 2 rfl) ?_
              refine lv_iload hx hb dX5_fillNext_65 (lv_at hl 4 rfl) ?_
              obtain ⟨o12, go12, hf⟩ := bd_s hf
              refine ro_Vi (As := [.int p2, .int x4]) (rest := [.int (sNe.2.2.1 2 p2.toNatClampNeg)]) ⟨hx, hb, hml, hown, hts⟩ (c_X9_pintsOf l D K F hRo sRo p2 x4 o12 go12) (cwV 2 hts (gcV_X9_pintsOf (mB49 _ (List.mem_of_getElem? (i := 22) rfl))) rfl rfl rfl hdV_X9_pintsOf ⟨Nat.le_of_ble_eq_true rfl, Nat.le_of_ble_eq_true rfl⟩) hK hP hS (va_PL (cs := [wNe K hNe gNe0 sNe, wRo K hRo sRo]) (cc := [wRo K hRo sRo]) hP (fl2 _ _) [1] rfl (fl1 _)) (va_recv hK hP (ci := 8) (q0 := (4 + 0)) rfl (rwr ln_Ne o_Ro)) rfl hl.1 rfl (Nat.le_of_ble_eq_true rfl) dX5_fillNext_67 ⟨Nat.zero_le _, Nat.zero_le _⟩ (fun H locs hP hS => ?_)
              refine lv_isub hx hb dX5_fillNext_70 ?_
              exact w71 (f_X5_fillNext_5 F sRo p2 n) ih x3 x4 ((sNe.2.2.1 2 p2.toNatClampNeg) - o12) sNe H locs ls hf hP hD hS (lv_sub hl [0, 1, 2, 3, 4] rfl)
            · have hf := it_f hf c10
              refine lv_aload_n hx hb dX5_fillNext_50 rfl (lv_at hl 1 rfl) ?_
              refine va_get (D := D) (ci := 8) (v := .int (sRo.1 0)) (C := RX9) (T := TX9) (N := 19) hx hb hts iX9 hown hK hP (4 + 0) (rwr ln_Ne o_Ro) rfl 0 (by decide) (htl _ (mB48 _ (List.mem_of_getElem? (i := 23) rfl))) (fun _ h9 => h9) rfl dX5_fillNext_51 ?_
              refine lv_goto (tgt := 71) hx hb dX5_fillNext_54 (by decide) ?_
              exact w71 (f_X5_fillNext_5 F sRo p2 n) ih x3 x4 (sRo.1 0) sNe H locs ls hf hP hD hS (lv_sub hl [0, 1, 2, 3, 4] rfl)
  have hen : entryFrame m args 6 = entryFrame m (([.ref (hNe 99), .ref (hRo 99), .int p2] : List Value).toArray) 6 := by rw [hargs]
  have hl := lv_entry ([.ref (hNe 99), .ref (hRo 99), .int p2]) (n := 6) (Nat.le_of_ble_eq_true rfl)
  rw [hen, lg_entry_eq]
  generalize (lg_sl ([.ref (hNe 99), .ref (hRo 99), .int p2]) ++ List.replicate (6 - (lg_sl ([.ref (hNe 99), .ref (hRo 99), .int p2])).length) Slot.unset).toArray = ls at hl ⊢
  have hl : lv_has ls 6 [(0, .ref (hNe 99)), (1, .ref (hRo 99)), (2, .int p2)] := hl
  unfold f_X5_fillNext at hf
  obtain ⟨H, hHe⟩ : ∃ z, z = s.heap := ⟨_, rfl⟩
  obtain ⟨locs, hLe⟩ : ∃ z : List Loc, z = [] := ⟨_, rfl⟩
  rw [← hLe]
  have hS : va_S A s.heap H locs := by rw [hHe, hLe]; exact hS
  have hP : va_P D vwCl (wNe K hNe gNe0 sNe ++ wRo K hRo sRo) H := by rw [hHe]; exact hP
  have hgo : W p l e (headSpec wz_X5_fillNext r_X5_fillNext).room s m args below meth c H locs 0 0 Q (F0 m 0 ls []) := by
    refine lv_iconst (v := (0 : Int32)) hx hb dX5_fillNext_0 (by decide) ?_
    refine lv_istore_n (lv' := [(3, .int (0 : Int32)), (0, .ref (hNe 99)), (1, .ref (hRo 99)), (2, .int p2)]) hx hb dX5_fillNext_1 rfl hl (by decide) rfl (fun ls hl => ?_)
    refine lv_iconst (v := (0 : Int32)) hx hb dX5_fillNext_2 (by decide) ?_
    refine lv_istore (lv' := [(4, .int (0 : Int32)), (3, .int (0 : Int32)), (0, .ref (hNe 99)), (1, .ref (hRo 99)), (2, .int p2)]) hx hb dX5_fillNext_3 hl (by decide) rfl (fun ls hl => ?_)
    exact w5 F (0 : Int32) (0 : Int32) sNe H locs ls hf hP hD hS (lv_sub hl [2, 3, 4, 1, 0] rfl)
  rw [hHe] at hgo
  exact hgo

theorem gcV_X5_fillNext {T0 : Cond} {own : String} {i : Nat} (h : Cond.methodLink own i yX5_fillNext ∈ wsL_law) : GoodIn (T0 :: wsL_law) (wsV own i RX5 yX5_fillNext wz_X5_fillNext) := gV h (mB51 _ (List.mem_of_getElem? (i := 7) rfl)) (mB51 _ (List.mem_of_getElem? (i := 8) rfl)) (mB2 _ (List.mem_of_getElem? (i := 10) rfl)) (mB51 _ (List.mem_of_getElem? (i := 9) rfl))
theorem hdV_X5_fillNext : yX5_fillNext.cls = RX5 ∧ yX5_fillNext.cls ≠ "java/lang/invoke/MethodHandle" ∧ yX5_fillNext.cls ≠ "java/lang/invoke/VarHandle" ∧ (parseMethodDescriptor yX5_fillNext.desc).map (fun d => d.parameters.length) = some 2 := by decide +kernel
def wz_X5_mostPints : List Cond := .code yX5_mostPints cX5_mostPints 6 (some .int) :: wsL_law
abbrev r_X5_mostPints : Room := { frames := 3, cells := 0, slots := 0, locals := 69 }
set_option maxHeartbeats 4000000 in
set_option maxRecDepth 100000 in
theorem c_X5_mostPints (l : Launch) (D : va_G) (K : Nat → ClassId) (F : Nat) (hNe : Nat → Nat) (gNe0 : Nat → Nat) (hRo : Nat → Nat) (sz : Nat) (sNe : MS) (sRo : MS) (p2 : Int32) (res : Int32 × MS) (hf : f_X5_mostPints F sRo p2 sNe = some res) : Met l yX5_mostPints wz_X5_mostPints r_X5_mostPints (va_Pc [.ref (hNe 99), .ref (hRo 99), .int p2] (PW D K (wNe K hNe gNe0 sNe ++ wRo K hRo sRo) sz)) (va_Qi (fun r u => r = res.1 ∧ u = res.2) (fun u t => BW D K (va_A (wNe K hNe gNe0 sNe ++ wRo K hRo sRo) sz) (wNe K hNe gNe0 u ++ wRo K hRo sRo) t) (va_A (wNe K hNe gNe0 sNe ++ wRo K hRo sRo) sz)) 0 0 (va_A (wNe K hNe gNe0 sNe ++ wRo K hRo sRo) sz) := by
  refine Met.ofW (cc := cX5_mostPints) (maxL := 6) (ret := (some .int)) (by decide) rfl ?_
  intro p e s m args below meth c s₁ B hml hv
  obtain ⟨hargs, hsz, hP, hK, hD0⟩ := hv
  have hx := B.exec
  have hb := B.bytes
  have hr := B.returns
  have hts := atoms_spec (ws := wz_X5_mostPints) B.pre
  have htl : ∀ w ∈ wsL_law, w.before args s = true := fun w h => hts w (List.mem_cons_of_mem _ h)
  have hown : s.vm.findClass RX5 = some m.cls := findClass_of_methodNamed B.named
  have hlocks := B.notSynchronized
  subst hsz
  have hD := hD0.self (sz := s.heap.size)
  generalize hAe : va_A (wNe K hNe gNe0 sNe ++ wRo K hRo sRo) s.heap.size = A at hD ⊢
  have hA : ∀ q : Nat, s.heap.size ≤ q → A q := fun q h => by rw [← hAe]; exact Or.inr h
  have hS : va_S A s.heap s.heap [] := va_S.rf
  have iX5 : ∀ w ∈ wsX50, w ∈ wz_X5_mostPints := fun w h => List.mem_cons_of_mem _ (inlX5 w h)
  have iX9 : ∀ w ∈ wsX90, w ∈ wz_X5_mostPints := fun w h => List.mem_cons_of_mem _ (inlX9 w h)
  suffices hgo : ∀ Q : State → Prop, Q = MQ below (va_Qi (fun r u => r = res.1 ∧ u = res.2) (fun u t => BW D K A (wNe K hNe gNe0 u ++ wRo K hRo sRo) t) A) args s 0 0 A → W p l e (headSpec wz_X5_mostPints r_X5_mostPints).room s m args below meth c s.heap [] 0 0 Q (entryFrame m args 6) from hgo _ rfl
  intro Q hQ
  have w104 : ∀ (sNe : MS), ∀ (H : Heap) (locs : List Loc) (ls : Array Slot), f_X5_mostPints_104 F sRo p2 sNe = some res → va_P D vwCl (wNe K hNe gNe0 sNe ++ wRo K hRo sRo) H → va_D A (wNe K hNe gNe0 sNe ++ wRo K hRo sRo) → va_S A s.heap H locs → lv_has ls 6 [(0, .ref (hNe 99)), (2, .int p2)] → W p l e (headSpec wz_X5_mostPints r_X5_mostPints).room s m args below meth c H locs 0 0 Q (F0 m 104 ls []) := by
    intro sNe H locs ls hf hP hD hS hl
    unfold f_X5_mostPints_104 at hf
    refine lv_aload_n hx hb dX5_mostPints_104 rfl (lv_at hl 0 rfl) ?_
    refine va_get (D := D) (ci := 4) (v := .ref (hNe 2)) (C := RX5) (T := TX5) (N := 3) hx hb hts iX5 hown hK hP 0 (rwl o_Ne) rfl 2 (by decide) (htl _ (mB5 _ (List.mem_of_getElem? (i := 1) rfl))) (fun _ h9 => h9) rfl dX5_mostPints_105 ?_
    refine lv_iload_n hx hb dX5_mostPints_108 rfl (lv_at hl 1 rfl) ?_
    obtain ⟨g18, hf⟩ := gd_s hf
    refine va_iald hx hb hK hP 3 0 (f := sNe.2.2.1 2) (rwl a_Ne_2) rfl (vpb_in g18) dX5_mostPints_109 ?_
    have e9 := Option.some.inj hf
    rw [hQ]
    exact W.iret (v := (sNe.2.2.1 2 p2.toNatClampNeg)) hx hb hr (fun t ht hW => ⟨⟨(sNe.2.2.1 2 p2.toNatClampNeg), sNe, rfl, ⟨pr1 e9, pr2 e9⟩, ⟨by rw [ht]; exact hP, va_K.moved hW.alike hK, hD⟩⟩, hS.F ht⟩) hS.2.2 dX5_mostPints_110
  have w98 : ∀ (k46 : Int32 → Int32 → MS → Option (Int32 × MS)), (∀ (x3 : Int32), ∀ (x4 : Int32), ∀ (sNe : MS), ∀ (H : Heap) (locs : List Loc) (ls : Array Slot), k46 x3 x4 sNe = some res → va_P D vwCl (wNe K hNe gNe0 sNe ++ wRo K hRo sRo) H → va_D A (wNe K hNe gNe0 sNe ++ wRo K hRo sRo) → va_S A s.heap H locs → lv_has ls 6 [(0, .ref (hNe 99)), (1, .ref (hRo 99)), (2, .int p2), (3, .int x3), (4, .int x4)] → W p l e (headSpec wz_X5_mostPints r_X5_mostPints).room s m args below meth c H locs 0 0 Q (F0 m 46 ls [])) → ∀ (x3 : Int32), ∀ (x4 : Int32), ∀ (sNe : MS), ∀ (H : Heap) (locs : List Loc) (ls : Array Slot), f_X5_mostPints_98 F sRo p2 k46 x3 x4 sNe = some res → va_P D vwCl (wNe K hNe gNe0 sNe ++ wRo K hRo sRo) H → va_D A (wNe K hNe gNe0 sNe ++ wRo K hRo sRo) → va_S A s.heap H locs → lv_has ls 6 [(0, .ref (hNe 99)), (1, .ref (hRo 99)), (2, .int p2), (3, .int x3), (4, .int x4)] → W p l e (headSpec wz_X5_mostPints r_X5_mostPints).room s m args below meth c H locs 0 0 Q (F0 m 98 ls []) := by
    intro k46 hk46 x3 x4 sNe H locs ls hf hP hD hS hl
    unfold f_X5_mostPints_98 at hf
    obtain ⟨v17, ev17⟩ : ∃ z : Int32, z = x4 + (1 : Int32) := ⟨_, rfl⟩
    have hf := lz_s hf v17 ev17
    refine lv_iinc (v := v17) (lv' := [(4, .int v17), (0, .ref (hNe 99)), (1, .ref (hRo 99)), (2, .int p2), (3, .int x3)]) hx hb dX5_mostPints_98 hl (k := 4) rfl (by rw [ev17]; rfl) (by decide) rfl (fun ls hl => ?_)
    refine lv_goto (tgt := 46) hx hb dX5_mostPints_101 (by decide) ?_
    exact hk46 x3 v17 sNe H locs ls hf hP hD hS (lv_sub hl [1, 2, 3, 4, 0] rfl)
  have w91 : ∀ (k63 : Int32 → Int32 → Int32 → MS → Option (Int32 × MS)), (∀ (x3 : Int32), ∀ (x4 : Int32), ∀ (x5 : Int32), ∀ (sNe : MS), ∀ (H : Heap) (locs : List Loc) (ls : Array Slot), k63 x3 x4 x5 sNe = some res → va_P D vwCl (wNe K hNe gNe0 sNe ++ wRo K hRo sRo) H → va_D A (wNe K hNe gNe0 sNe ++ wRo K hRo sRo) → va_S A s.heap H locs → lv_has ls 6 [(0, .ref (hNe 99)), (1, .ref (hRo 99)), (2, .int p2), (3, .int x3), (4, .int x4), (5, .int x5)] → W p l e (headSpec wz_X5_mostPints r_X5_mostPints).room s m args below meth c H locs 0 0 Q (F0 m 63 ls [])) → ∀ (x4 : Int32), ∀ (x5 : Int32), ∀ (y0 : Int32), ∀ (sNe : MS), ∀ (H : Heap) (locs : List Loc) (ls : Array Slot), f_X5_mostPints_91 F sRo p2 k63 x4 x5 y0 sNe = some res → va_P D vwCl (wNe K hNe gNe0 sNe ++ wRo K hRo sRo) H → va_D A (wNe K hNe gNe0 sNe ++ wRo K hRo sRo) → va_S A s.heap H locs → lv_has ls 6 [(0, .ref (hNe 99)), (1, .ref (hRo 99)), (2, .int p2), (4, .int x4), (5, .int x5)] → W p l e (headSpec wz_X5_mostPints r_X5_mostPints).room s m args below meth c H locs 0 0 Q (F0 m 91 ls [.int y0]) := by
    intro k63 hk63 x4 x5 y0 sNe H locs ls hf hP hD hS hl
    unfold f_X5_mostPints_91 at hf
    refine lv_istore_n (lv' := [(3, .int y0), (0, .ref (hNe 99)), (1, .ref (hRo 99)), (2, .int p2), (4, .int x4), (5, .int x5)]) hx hb dX5_mostPints_91 rfl hl (by decide) rfl (fun ls hl => ?_)
    obtain ⟨v16, ev16⟩ : ∃ z : Int32, z = x5 + (1 : Int32) := ⟨_, rfl⟩
    have hf := lz_s hf v16 ev16
    refine lv_iinc (v := v16) (lv' := [(5, .int v16), (3, .int y0), (0, .ref (hNe 99)), (1, .ref (hRo 99)), (2, .int p2), (4, .int x4)]) hx hb dX5_mostPints_92 hl (k := 5) rfl (by rw [ev16]; rfl) (by decide) rfl (fun ls hl => ?_)
    refine lv_goto (tgt := 63) hx hb dX5_mostPints_95 (by decide) ?_
    exact hk63 y0 x4 v16 sNe H locs ls hf hP hD hS (lv_sub hl [2, 3, 4, 1, 5, 0] rfl)
  have w86 : ∀ (k63 : Int32 → Int32 → Int32 → MS → Option (Int32 × MS)), (∀ (x3 : Int32), ∀ (x4 : Int32), ∀ (x5 : Int32), ∀ (sNe : MS), ∀ (H : Heap) (locs : List Loc) (ls : Array Slot), k63 x3 x4 x5 sNe = some res → va_P D vwCl (wNe K hNe gNe0 sNe ++ wRo K hRo sRo) H → va_D A (wNe K hNe gNe0 sNe ++ wRo K hRo sRo) → va_S A s.heap H locs → lv_has ls 6 [(0, .ref (hNe 99)), (1, .ref (hRo 99)), (2, .int p2), (3, .int x3), (4, .int x4), (5, .int x5)] → W p l e (headSpec wz_X5_mostPints r_X5_mostPints).room s m args below meth c H locs 0 0 Q (F0 m 63 ls [])) → ∀ (x4 : Int32), ∀ (x5 : Int32), ∀ (sNe : MS), ∀ (H : Heap) (locs : List Loc) (ls : Array Slot), f_X5_mostPints_86 F sRo p2 k63 x4 x5 sNe = some res → va_P D vwCl (wNe K hNe gNe0 sNe ++ wRo K hRo sRo) H → va_D A (wNe K hNe gNe0 sNe ++ wRo K hRo sRo) → va_S A s.heap H locs → lv_has ls 6 [(0, .ref (hNe 99)), (1, .ref (hRo 99)), (2, .int p2), (4, .int x4), (5, .int x5)] → W p l e (headSpec wz_X5_mostPints r_X5_mostPints).room s m args below meth c H locs 0 0 Q (F0 m 86 ls []) := by
    intro k63 hk63 x4 x5 sNe H locs ls hf hP hD hS hl
    unfold f_X5_mostPints_86 at hf
    refine lv_iconst (v := (1 : Int32)) hx hb dX5_mostPints_86 (by decide) ?_
    refine lv_goto (tgt := 91) hx hb dX5_mostPints_87 (by decide) ?_
    exact w91 k63 hk63 x4 x5 (1 : Int32) sNe H locs ls hf hP hD hS (lv_sub hl [0, 1, 2, 3, 4] rfl)
  have w63 : ∀ (k46 : Int32 → Int32 → MS → Option (Int32 × MS)), (∀ (x3 : Int32), ∀ (x4 : Int32), ∀ (sNe : MS), ∀ (H : Heap) (locs : List Loc) (ls : Array Slot), k46 x3 x4 sNe = some res → va_P D vwCl (wNe K hNe gNe0 sNe ++ wRo K hRo sRo) H → va_D A (wNe K hNe gNe0 sNe ++ wRo K hRo sRo) → va_S A s.heap H locs → lv_has ls 6 [(0, .ref (hNe 99)), (1, .ref (hRo 99)), (2, .int p2), (3, .int x3), (4, .int x4)] → W p l e (headSpec wz_X5_mostPints r_X5_mostPints).room s m args below meth c H locs 0 0 Q (F0 m 46 ls [])) → ∀ (n : Nat), ∀ (x3 : Int32), ∀ (x4 : Int32), ∀ (x5 : Int32), ∀ (sNe : MS), ∀ (H : Heap) (locs : List Loc) (ls : Array Slot), f_X5_mostPints_63 F sRo p2 k46 n x3 x4 x5 sNe = some res → va_P D vwCl (wNe K hNe gNe0 sNe ++ wRo K hRo sRo) H → va_D A (wNe K hNe gNe0 sNe ++ wRo K hRo sRo) → va_S A s.heap H locs → lv_has ls 6 [(0, .ref (hNe 99)), (1, .ref (hRo 99)), (2, .int p2), (3, .int x3), (4, .int x4), (5, .int x5)] → W p l e (headSpec wz_X5_mostPints r_X5_mostPints).room s m args below meth c H locs 0 0 Q (F0 m 63 ls []) := by
    intro k46 hk46 n
    induction n with
    | zero =>
      intro x3 x4 x5 sNe H locs ls hf
      exact absurd (show none = some res from hf) (fun h => nomatch h)
    | succ n ih =>
      intro x3 x4 x5 sNe H locs ls hf hP hD hS hl
      rw [f_X5_mostPints_63] at hf
      refine lv_iload hx hb dX5_mostPints_63 (lv_at hl 5 rfl) ?_
      refine lv_aload_n hx hb dX5_mostPints_65 rfl (lv_at hl 1 rfl) ?_
      refine va_get (D := D) (ci := 8) (v := .int (sRo.1 5)) (C := RX9) (T := TX9) (N := 19) hx hb hts iX9 hown hK hP (4 + 0) (rwr ln_Ne o_Ro) rfl 5 (by decide) (htl _ (mB48 _ (List.mem_of_getElem? (i := 20) rfl))) (fun _ h9 => h9) rfl dX5_mostPints_66 ?_
      refine lv_icmp_ge (tgt := 98) hx hb dX5_mostPints_69 (by decide) (fun c12 => ?_) (fun c12 => ?_)
      · have hf := it_t hf c12
        exact w98 k46 hk46 x3 x4 sNe H locs ls hf hP hD hS (lv_sub hl [0, 1, 2, 3, 4] rfl)
      · have hf := it_f hf c12
        refine lv_aload_n hx hb dX5_mostPints_72 rfl (lv_at hl 0 rfl) ?_
        refine lv_aload_n hx hb dX5_mostPints_73 rfl (lv_at hl 1 rfl) ?_
        refine lv_iload hx hb dX5_mostPints_74 (lv_at hl 5 rfl) ?_
        obtain ⟨o13, go13, hf⟩ := bd_s hf
        refine rs_Vi (As := [.ref (hRo 99), .int x5]) (rest := []) ⟨hx, hb, hml, hown, hts⟩ (c_X5_fillNext l D K F hNe gNe0 hRo H.size sNe sRo x5 o13 go13) (cwV 2 hts (gcV_X5_fillNext (mB51 _ (List.mem_of_getElem? (i := 6) rfl))) rfl rfl rfl hdV_X5_fillNext ⟨Nat.le_of_ble_eq_true rfl, Nat.le_of_ble_eq_true rfl⟩) hK hP hD hS hA (va_recv hK hP (ci := 4) (q0 := 0) rfl (rwl o_Ne)) rfl hl.1 rfl (Nat.le_of_ble_eq_true rfl) dX5_mostPints_76 ⟨Nat.zero_le _, Nat.zero_le _⟩ (fun H locs hP hD hS => ?_)
        have hP : va_P D vwCl (wNe K hNe gNe0 o13.2 ++ wRo K hRo sRo) H := hP
        have hD : va_D A (wNe K hNe gNe0 o13.2 ++ wRo K hRo sRo) := hD
        refine lv_if_ne (tgt := 86) hx hb dX5_mostPints_79 (by decide) (fun c14 => ?_) (fun c14 => ?_)
        · have hf := it_f hf c14
          exact w86 (f_X5_mostPints_63 F sRo p2 k46 n) ih x4 x5 o13.2 H locs ls hf hP hD hS (lv_sub hl [0, 1, 2, 4, 5] rfl)
        · have hf := it_t hf c14
          refine lv_iload_n hx hb dX5_mostPints_82 rfl (lv_at hl 3 rfl) ?_
          refine lv_if_eq (tgt := 90) hx hb dX5_mostPints_83 (by decide) (fun c15 => ?_) (fun c15 => ?_)
          · have hf := it_t hf c15
            refine lv_iconst (v := (0 : Int32)) hx hb dX5_mostPints_90 (by decide) ?_
            exact w91 (f_X5_mostPints_63 F sRo p2 k46 n) ih x4 x5 (0 : Int32) o13.2 H locs ls hf hP hD hS (lv_sub hl [0, 1, 2, 4, 5] rfl)
          · have hf := it_f hf c15
            exact w86 (f_X5_mostPints_63 F sRo p2 k46 n) ih x4 x5 o13.2 H locs ls hf hP hD hS (lv_sub hl [0, 1, 2, 4, 5] rfl)
  have w46 : ∀ (n : Nat), ∀ (x3 : Int32), ∀ (x4 : Int32), ∀ (sNe : MS), ∀ (H : Heap) (locs : List Loc) (ls : Array Slot), f_X5_mostPints_46 F sRo p2 n x3 x4 sNe = some res → va_P D vwCl (wNe K hNe gNe0 sNe ++ wRo K hRo sRo) H → va_D A (wNe K hNe gNe0 sNe ++ wRo K hRo sRo) → va_S A s.heap H locs → lv_has ls 6 [(0, .ref (hNe 99)), (1, .ref (hRo 99)), (2, .int p2), (3, .int x3), (4, .int x4)] → W p l e (headSpec wz_X5_mostPints r_X5_mostPints).room s m args below meth c H locs 0 0 Q (F0 m 46 ls []) := by
    intro n
    induction n with
    | zero =>
      intro x3 x4 sNe H locs ls hf
      exact absurd (show none = some res from hf) (fun h => nomatch h)
    | succ n ih =>
      intro x3 x4 sNe H locs ls hf hP hD hS hl
      rw [f_X5_mostPints_46] at hf
      refine lv_iload_n hx hb dX5_mostPints_46 rfl (lv_at hl 3 rfl) ?_
      refine lv_if_eq (tgt := 104) hx hb dX5_mostPints_47 (by decide) (fun c10 => ?_) (fun c10 => ?_)
      · have hf := it_t hf c10
        exact w104 sNe H locs ls hf hP hD hS (lv_sub hl [0, 2] rfl)
      · have hf := it_f hf c10
        refine lv_iload hx hb dX5_mostPints_50 (lv_at hl 4 rfl) ?_
        refine lv_sipush (v := (369 : Int32)) hx hb dX5_mostPints_52 (by decide) ?_
        refine lv_icmp_ge (tgt := 104) hx hb dX5_mostPints_55 (by decide) (fun c11 => ?_) (fun c11 => ?_)
        · have hf := it_t hf c11
          exact w104 sNe H locs ls hf hP hD hS (lv_sub hl [0, 2] rfl)
        · have hf := it_f hf c11
          refine lv_iconst (v := (0 : Int32)) hx hb dX5_mostPints_58 (by decide) ?_
          refine lv_istore_n (lv' := [(3, .int (0 : Int32)), (0, .ref (hNe 99)), (1, .ref (hRo 99)), (2, .int p2), (4, .int x4)]) hx hb dX5_mostPints_59 rfl hl (by decide) rfl (fun ls hl => ?_)
          refine lv_iconst (v := (0 : Int32)) hx hb dX5_mostPints_60 (by decide) ?_
          refine lv_istore (lv' := [(5, .int (0 : Int32)), (3, .int (0 : Int32)), (0, .ref (hNe 99)), (1, .ref (hRo 99)), (2, .int p2), (4, .int x4)]) hx hb dX5_mostPints_61 hl (by decide) rfl (fun ls hl => ?_)
          exact w63 (f_X5_mostPints_46 F sRo p2 n) ih F (0 : Int32) x4 (0 : Int32) sNe H locs ls hf hP hD hS (lv_sub hl [2, 3, 4, 1, 5, 0] rfl)
  have w40 : ∀ (y1 : Int32), ∀ (y2 : Int32), ∀ (sNe : MS), ∀ (H : Heap) (locs : List Loc) (ls : Array Slot), f_X5_mostPints_40 F sRo p2 y1 y2 sNe = some res → va_P D vwCl (wNe K hNe gNe0 sNe ++ wRo K hRo sRo) H → va_D A (wNe K hNe gNe0 sNe ++ wRo K hRo sRo) → va_S A s.heap H locs → lv_has ls 6 [(0, .ref (hNe 99)), (1, .ref (hRo 99)), (2, .int p2)] → W p l e (headSpec wz_X5_mostPints r_X5_mostPints).room s m args below meth c H locs 0 0 Q (F0 m 40 ls [.int y2, .int y1, .ref (hNe 2)]) := by
    intro y1 y2 sNe H locs ls hf hP hD hS hl
    unfold f_X5_mostPints_40 at hf
    obtain ⟨g8, hf⟩ := gd_s hf
    refine va_iast hx hb hK hP hD hS 3 0 (f := sNe.2.2.1 2) (rwl a_Ne_2) rfl (vpb_in g8) dX5_mostPints_40 (fun H locs hP hD hS => ?_)
    have hP := cvP (stl sa_Ne_2 (rlt a_Ne_2)) hP
    have hD := cvD (stl sa_Ne_2 (rlt a_Ne_2)) hD
    obtain ⟨s9, es9⟩ : ∃ z, z = sA sNe 2 y1.toNatClampNeg y2 := ⟨_, rfl⟩
    have hP : va_P D vwCl (wNe K hNe gNe0 s9 ++ wRo K hRo sRo) H := by rw [es9]; exact hP
    have hD : va_D A (wNe K hNe gNe0 s9 ++ wRo K hRo sRo) := by rw [es9]; exact hD
    have hf := lz_s hf s9 es9
    refine lv_iconst (v := (1 : Int32)) hx hb dX5_mostPints_41 (by decide) ?_
    refine lv_istore_n (lv' := [(3, .int (1 : Int32)), (0, .ref (hNe 99)), (1, .ref (hRo 99)), (2, .int p2)]) hx hb dX5_mostPints_42 rfl hl (by decide) rfl (fun ls hl => ?_)
    refine lv_iconst (v := (0 : Int32)) hx hb dX5_mostPints_43 (by decide) ?_
    refine lv_istore (lv' := [(4, .int (0 : Int32)), (3, .int (1 : Int32)), (0, .ref (hNe 99)), (1, .ref (hRo 99)), (2, .int p2)]) hx hb dX5_mostPints_44 hl (by decide) rfl (fun ls hl => ?_)
    exact w46 F (1 : Int32) (0 : Int32) s9 H locs ls hf hP hD hS (lv_sub hl [2, 3, 4, 1, 0] rfl)
  have hen : entryFrame m args 6 = entryFrame m (([.ref (hNe 99), .ref (hRo 99), .int p2] : List Value).toArray) 6 := by rw [hargs]
  have hl := lv_entry ([.ref (hNe 99), .ref (hRo 99), .int p2]) (n := 6) (Nat.le_of_ble_eq_true rfl)
  rw [hen, lg_entry_eq]
  generalize (lg_sl ([.ref (hNe 99), .ref (hRo 99), .int p2]) ++ List.replicate (6 - (lg_sl ([.ref (hNe 99), .ref (hRo 99), .int p2])).length) Slot.unset).toArray = ls at hl ⊢
  have hl : lv_has ls 6 [(0, .ref (hNe 99)), (1, .ref (hRo 99)), (2, .int p2)] := hl
  unfold f_X5_mostPints at hf
  obtain ⟨H, hHe⟩ : ∃ z, z = s.heap := ⟨_, rfl⟩
  obtain ⟨locs, hLe⟩ : ∃ z : List Loc, z = [] := ⟨_, rfl⟩
  rw [← hLe]
  have hS : va_S A s.heap H locs := by rw [hHe, hLe]; exact hS
  have hP : va_P D vwCl (wNe K hNe gNe0 sNe ++ wRo K hRo sRo) H := by rw [hHe]; exact hP
  have hgo : W p l e (headSpec wz_X5_mostPints r_X5_mostPints).room s m args below meth c H locs 0 0 Q (F0 m 0 ls []) := by
    refine lv_aload_n hx hb dX5_mostPints_0 rfl (lv_at hl 0 rfl) ?_
    refine va_get (D := D) (ci := 4) (v := .ref (hNe 2)) (C := RX5) (T := TX5) (N := 3) hx hb hts iX5 hown hK hP 0 (rwl o_Ne) rfl 2 (by decide) (htl _ (mB5 _ (List.mem_of_getElem? (i := 1) rfl))) (fun _ h9 => h9) rfl dX5_mostPints_1 ?_
    refine lv_bipush (v := (-2 : Int32)) hx hb dX5_mostPints_4 (by decide) ?_
    obtain ⟨o1, go1, hf⟩ := bd_s hf
    refine rw_Sv (wn := wNe K hNe gNe0 (wA sNe 2 o1) ++ wRo K hRo sRo) (As := [.ref (hNe 2), .int (-2 : Int32)]) (rest := []) ⟨hx, hb, hml, hown, hts⟩ (c_J7_fill_53178 l D K F (hNe 2) 9 H.size (sNe.2.2.1 2) (-2 : Int32) o1 go1) (va_cwS 2 hts (gcS_J7_fill_53178 (mB49 _ (List.mem_of_getElem? (i := 3) rfl))) rfl rfl rfl hdS_J7_fill_53178 ⟨Nat.le_of_ble_eq_true rfl, Nat.le_of_ble_eq_true rfl⟩) hK hP hD hS hA [3] [0, 1, 2, 4, 5, 6, 7, 8, 9, 10, 11, 12, 13] [0, 1, 2, 13, 3, 4, 5, 6, 7, 8, 9, 10, 11, 12] rfl rfl (by decide +kernel) (by decide +kernel) (by decide +kernel) rfl (by decide +kernel) rfl hl.1 rfl (Nat.le_of_ble_eq_true rfl) dX5_mostPints_6 ⟨Nat.zero_le _, Nat.zero_le _⟩ (fun H locs hP hD hS => ?_)
    have hP : va_P D vwCl (wNe K hNe gNe0 (wA sNe 2 o1) ++ wRo K hRo sRo) H := hP
    have hD : va_D A (wNe K hNe gNe0 (wA sNe 2 o1) ++ wRo K hRo sRo) := hD
    obtain ⟨s2, es2⟩ : ∃ z, z = (wA sNe 2 o1) := ⟨_, rfl⟩
    have hP : va_P D vwCl (wNe K hNe gNe0 s2 ++ wRo K hRo sRo) H := by rw [es2]; exact hP
    have hD : va_D A (wNe K hNe gNe0 s2 ++ wRo K hRo sRo) := by rw [es2]; exact hD
    have hf := lz_s hf s2 es2
    refine lv_aload_n hx hb dX5_mostPints_9 rfl (lv_at hl 0 rfl) ?_
    refine va_get (D := D) (ci := 4) (v := .ref (hNe 2)) (C := RX5) (T := TX5) (N := 3) hx hb hts iX5 hown hK hP 0 (rwl o_Ne) rfl 2 (by decide) (htl _ (mB5 _ (List.mem_of_getElem? (i := 1) rfl))) (fun _ h9 => h9) rfl dX5_mostPints_10 ?_
    refine lv_aload_n hx hb dX5_mostPints_13 rfl (lv_at hl 1 rfl) ?_
    obtain ⟨o3, go3, hf⟩ := bd_s hf
    refine ro_Vi (As := []) (rest := [.ref (hNe 2)]) ⟨hx, hb, hml, hown, hts⟩ (c_X9_start l D K F hRo sRo o3 go3) (cwV 0 hts (gcV_X9_start (mB49 _ (List.mem_of_getElem? (i := 4) rfl))) rfl rfl rfl hdV_X9_start ⟨Nat.le_of_ble_eq_true rfl, Nat.le_of_ble_eq_true rfl⟩) hK hP hS (va_PL (cs := [wNe K hNe gNe0 s2, wRo K hRo sRo]) (cc := [wRo K hRo sRo]) hP (fl2 _ _) [1] rfl (fl1 _)) (va_recv hK hP (ci := 8) (q0 := (4 + 0)) rfl (rwr ln_Ne o_Ro)) rfl hl.1 rfl (Nat.le_of_ble_eq_true rfl) dX5_mostPints_14 ⟨Nat.zero_le _, Nat.zero_le _⟩ (fun H locs hP hS => ?_)
    refine lv_aload_n hx hb dX5_mostPints_17 rfl (lv_at hl 1 rfl) ?_
    refine va_get (D := D) (ci := 8) (v := .ref (hRo 12)) (C := RX9) (T := TX9) (N := 19) hx hb hts iX9 hown hK hP (4 + 0) (rwr ln_Ne o_Ro) rfl 12 (by decide) (htl _ (mB49 _ (List.mem_of_getElem? (i := 9) rfl))) (fun _ h9 => h9) rfl dX5_mostPints_18 ?_
    refine lv_aload_n hx hb dX5_mostPints_21 rfl (lv_at hl 1 rfl) ?_
    obtain ⟨o4, go4, hf⟩ := bd_s hf
    refine ro_Vi (As := []) (rest := [.ref (hRo 12), .int o3, .ref (hNe 2)]) ⟨hx, hb, hml, hown, hts⟩ (c_X9_start l D K F hRo sRo o4 go4) (cwV 0 hts (gcV_X9_start (mB49 _ (List.mem_of_getElem? (i := 4) rfl))) rfl rfl rfl hdV_X9_start ⟨Nat.le_of_ble_eq_true rfl, Nat.le_of_ble_eq_true rfl⟩) hK hP hS (va_PL (cs := [wNe K hNe gNe0 s2, wRo K hRo sRo]) (cc := [wRo K hRo sRo]) hP (fl2 _ _) [1] rfl (fl1 _)) (va_recv hK hP (ci := 8) (q0 := (4 + 0)) rfl (rwr ln_Ne o_Ro)) rfl hl.1 rfl (Nat.le_of_ble_eq_true rfl) dX5_mostPints_22 ⟨Nat.zero_le _, Nat.zero_le _⟩ (fun H locs hP hS => ?_)
    obtain ⟨g5, hf⟩ := gd_s hf
    refine va_iald hx hb hK hP (4 + 3) 0 (f := sRo.2.2.1 12) (rwr ln_Ne a_Ro_12) rfl (vpb_in g5) dX5_mostPints_25 ?_
    refine lv_topi (fun v6 ev6 => ?_)
    have hf := lz_s hf v6 ev6
    refine lv_if_le (tgt := 36) hx hb dX5_mostPints_26 (by decide) (fun c7 => ?_) (fun c7 => ?_)
    · have hf := it_t hf c7
      refine lv_aload_n hx hb dX5_mostPints_36 rfl (lv_at hl 1 rfl) ?_
      refine va_get (D := D) (ci := 8) (v := .int (sRo.1 1)) (C := RX9) (T := TX9) (N := 19) hx hb hts iX9 hown hK hP (4 + 0) (rwr ln_Ne o_Ro) rfl 1 (by decide) (htl _ (mB48 _ (List.mem_of_getElem? (i := 22) rfl))) (fun _ h9 => h9) rfl dX5_mostPints_37 ?_
      exact w40 o3 (sRo.1 1) s2 H locs ls hf hP hD hS (lv_sub hl [0, 1, 2] rfl)
    · have hf := it_f hf c7
      refine lv_aload_n hx hb dX5_mostPints_29 rfl (lv_at hl 1 rfl) ?_
      refine va_get (D := D) (ci := 8) (v := .int (sRo.1 0)) (C := RX9) (T := TX9) (N := 19) hx hb hts iX9 hown hK hP (4 + 0) (rwr ln_Ne o_Ro) rfl 0 (by decide) (htl _ (mB48 _ (List.mem_of_getElem? (i := 23) rfl))) (fun _ h9 => h9) rfl dX5_mostPints_30 ?_
      refine lv_goto (tgt := 40) hx hb dX5_mostPints_33 (by decide) ?_
      exact w40 o3 (sRo.1 0) s2 H locs ls hf hP hD hS (lv_sub hl [0, 1, 2] rfl)
  rw [hHe] at hgo
  exact hgo

def wz_X5_nearNext : List Cond := .code yX5_nearNext cX5_nearNext 4 none :: wsL_law
abbrev r_X5_nearNext : Room := { frames := 2, cells := 0, slots := 0, locals := 44 }
set_option maxHeartbeats 4000000 in
set_option maxRecDepth 100000 in
theorem c_X5_nearNext (l : Launch) (D : va_G) (K : Nat → ClassId) (F : Nat) (hNe : Nat → Nat) (gNe0 : Nat → Nat) (hRo : Nat → Nat) (sz : Nat) (sNe : MS) (sRo : MS) (p2 : Int32) (res : MS) (hf : f_X5_nearNext F sRo p2 sNe = some res) : Met l yX5_nearNext wz_X5_nearNext r_X5_nearNext (va_Pc [.ref (hNe 99), .ref (hRo 99), .int p2] (PW D K (wNe K hNe gNe0 sNe ++ wRo K hRo sRo) sz)) (va_Qv (fun u => u = res) (fun u t => BW D K (va_A (wNe K hNe gNe0 sNe ++ wRo K hRo sRo) sz) (wNe K hNe gNe0 u ++ wRo K hRo sRo) t) (va_A (wNe K hNe gNe0 sNe ++ wRo K hRo sRo) sz)) 0 0 (va_A (wNe K hNe gNe0 sNe ++ wRo K hRo sRo) sz) := by
  refine Met.ofW (cc := cX5_nearNext) (maxL := 4) (ret := none) (by decide) rfl ?_
  intro p e s m args below meth c s₁ B hml hv
  obtain ⟨hargs, hsz, hP, hK, hD0⟩ := hv
  have hx := B.exec
  have hb := B.bytes
  have hr := B.returns
  have hts := atoms_spec (ws := wz_X5_nearNext) B.pre
  have htl : ∀ w ∈ wsL_law, w.before args s = true := fun w h => hts w (List.mem_cons_of_mem _ h)
  have hown : s.vm.findClass RX5 = some m.cls := findClass_of_methodNamed B.named
  have hlocks := B.notSynchronized
  subst hsz
  have hD := hD0.self (sz := s.heap.size)
  generalize hAe : va_A (wNe K hNe gNe0 sNe ++ wRo K hRo sRo) s.heap.size = A at hD ⊢
  have hA : ∀ q : Nat, s.heap.size ≤ q → A q := fun q h => by rw [← hAe]; exact Or.inr h
  have hS : va_S A s.heap s.heap [] := va_S.rf
  have iX5 : ∀ w ∈ wsX50, w ∈ wz_X5_nearNext := fun w h => List.mem_cons_of_mem _ (inlX5 w h)
  have iX9 : ∀ w ∈ wsX90, w ∈ wz_X5_nearNext := fun w h => List.mem_cons_of_mem _ (inlX9 w h)
  suffices hgo : ∀ Q : State → Prop, Q = MQ below (va_Qv (fun u => u = res) (fun u t => BW D K A (wNe K hNe gNe0 u ++ wRo K hRo sRo) t) A) args s 0 0 A → W p l e (headSpec wz_X5_nearNext r_X5_nearNext).room s m args below meth c s.heap [] 0 0 Q (entryFrame m args 4) from hgo _ rfl
  intro Q hQ
  have w58 : ∀ (k2 : Int32 → MS → Option MS), (∀ (x3 : Int32), ∀ (sNe : MS), ∀ (H : Heap) (locs : List Loc) (ls : Array Slot), k2 x3 sNe = some res → va_P D vwCl (wNe K hNe gNe0 sNe ++ wRo K hRo sRo) H → va_D A (wNe K hNe gNe0 sNe ++ wRo K hRo sRo) → va_S A s.heap H locs → lv_has ls 4 [(0, .ref (hNe 99)), (1, .ref (hRo 99)), (2, .int p2), (3, .int x3)] → W p l e (headSpec wz_X5_nearNext r_X5_nearNext).room s m args below meth c H locs 0 0 Q (F0 m 2 ls [])) → ∀ (x3 : Int32), ∀ (sNe : MS), ∀ (H : Heap) (locs : List Loc) (ls : Array Slot), f_X5_nearNext_58 F sRo p2 k2 x3 sNe = some res → va_P D vwCl (wNe K hNe gNe0 sNe ++ wRo K hRo sRo) H → va_D A (wNe K hNe gNe0 sNe ++ wRo K hRo sRo) → va_S A s.heap H locs → lv_has ls 4 [(0, .ref (hNe 99)), (1, .ref (hRo 99)), (2, .int p2), (3, .int x3)] → W p l e (headSpec wz_X5_nearNext r_X5_nearNext).room s m args below meth c H locs 0 0 Q (F0 m 58 ls []) := by
    intro k2 hk2 x3 sNe H locs ls hf hP hD hS hl
    unfold f_X5_nearNext_58 at hf
    obtain ⟨v12, ev12⟩ : ∃ z : Int32, z = x3 + (1 : Int32) := ⟨_, rfl⟩
    have hf := lz_s hf v12 ev12
    refine lv_iinc (v := v12) (lv' := [(3, .int v12), (0, .ref (hNe 99)), (1, .ref (hRo 99)), (2, .int p2)]) hx hb dX5_nearNext_58 hl (k := 3) rfl (by rw [ev12]; rfl) (by decide) rfl (fun ls hl => ?_)
    refine lv_goto (tgt := 2) hx hb dX5_nearNext_61 (by decide) ?_
    exact hk2 v12 sNe H locs ls hf hP hD hS (lv_sub hl [1, 2, 3, 0] rfl)
  have w2 : ∀ (n : Nat), ∀ (x3 : Int32), ∀ (sNe : MS), ∀ (H : Heap) (locs : List Loc) (ls : Array Slot), f_X5_nearNext_2 F sRo p2 n x3 sNe = some res → va_P D vwCl (wNe K hNe gNe0 sNe ++ wRo K hRo sRo) H → va_D A (wNe K hNe gNe0 sNe ++ wRo K hRo sRo) → va_S A s.heap H locs → lv_has ls 4 [(0, .ref (hNe 99)), (1, .ref (hRo 99)), (2, .int p2), (3, .int x3)] → W p l e (headSpec wz_X5_nearNext r_X5_nearNext).room s m args below meth c H locs 0 0 Q (F0 m 2 ls []) := by
    intro n
    induction n with
    | zero =>
      intro x3 sNe H locs ls hf
      exact absurd (show none = some res from hf) (fun h => nomatch h)
    | succ n ih =>
      intro x3 sNe H locs ls hf hP hD hS hl
      rw [f_X5_nearNext_2] at hf
      refine lv_iload_n hx hb dX5_nearNext_2 rfl (lv_at hl 3 rfl) ?_
      refine lv_aload_n hx hb dX5_nearNext_3 rfl (lv_at hl 1 rfl) ?_
      refine va_get (D := D) (ci := 8) (v := .int (sRo.1 5)) (C := RX9) (T := TX9) (N := 19) hx hb hts iX9 hown hK hP (4 + 0) (rwr ln_Ne o_Ro) rfl 5 (by decide) (htl _ (mB48 _ (List.mem_of_getElem? (i := 20) rfl))) (fun _ h9 => h9) rfl dX5_nearNext_4 ?_
      refine lv_icmp_ge (tgt := 64) hx hb dX5_nearNext_7 (by decide) (fun c1 => ?_) (fun c1 => ?_)
      · have hf := it_t hf c1
        have e9 := Option.some.inj hf
        rw [hQ]
        exact W.vret hx hb hr (fun t ht hW => ⟨⟨sNe, rfl, e9, ⟨by rw [ht]; exact hP, va_K.moved hW.alike hK, hD⟩⟩, hS.F ht⟩) hS.2.2 dX5_nearNext_64
      · have hf := it_f hf c1
        refine lv_aload_n hx hb dX5_nearNext_10 rfl (lv_at hl 1 rfl) ?_
        refine lv_iload_n hx hb dX5_nearNext_11 rfl (lv_at hl 2 rfl) ?_
        refine lv_iload_n hx hb dX5_nearNext_12 rfl (lv_at hl 3 rfl) ?_
        obtain ⟨o2, go2, hf⟩ := bd_s hf
        refine ro_Vi (As := [.int p2, .int x3]) (rest := []) ⟨hx, hb, hml, hown, hts⟩ (c_X9_isRoad l D K F hRo sRo p2 x3 o2 go2) (cwV 2 hts (gcV_X9_isRoad (mB49 _ (List.mem_of_getElem? (i := 16) rfl))) rfl rfl rfl hdV_X9_isRoad ⟨Nat.le_of_ble_eq_true rfl, Nat.le_of_ble_eq_true rfl⟩) hK hP hS (va_PL (cs := [wNe K hNe gNe0 sNe, wRo K hRo sRo]) (cc := [wRo K hRo sRo]) hP (fl2 _ _) [1] rfl (fl1 _)) (va_recv hK hP (ci := 8) (q0 := (4 + 0)) rfl (rwr ln_Ne o_Ro)) rfl hl.1 rfl (Nat.le_of_ble_eq_true rfl) dX5_nearNext_13 ⟨Nat.zero_le _, Nat.zero_le _⟩ (fun H locs hP hS => ?_)
        refine lv_if_eq (tgt := 58) hx hb dX5_nearNext_16 (by decide) (fun c3 => ?_) (fun c3 => ?_)
        · have hf := it_t hf c3
          exact w58 (f_X5_nearNext_2 F sRo p2 n) ih x3 sNe H locs ls hf hP hD hS (lv_sub hl [0, 1, 2, 3] rfl)
        · have hf := it_f hf c3
          refine lv_aload_n hx hb dX5_nearNext_19 rfl (lv_at hl 0 rfl) ?_
          refine va_get (D := D) (ci := 4) (v := .ref (hNe 2)) (C := RX5) (T := TX5) (N := 3) hx hb hts iX5 hown hK hP 0 (rwl o_Ne) rfl 2 (by decide) (htl _ (mB5 _ (List.mem_of_getElem? (i := 1) rfl))) (fun _ h9 => h9) rfl dX5_nearNext_20 ?_
          refine lv_iload_n hx hb dX5_nearNext_23 rfl (lv_at hl 2 rfl) ?_
          obtain ⟨g4, hf⟩ := gd_s hf
          refine va_iald hx hb hK hP 3 0 (f := sNe.2.2.1 2) (rwl a_Ne_2) rfl (vpb_in g4) dX5_nearNext_24 ?_
          refine lv_ldc (v := (268435456 : Int32)) hx hb hown (htl _ (mB48 _ (List.mem_of_getElem? (i := 21) rfl))) dX5_nearNext_25 ?_
          refine lv_icmp_ge (tgt := 58) hx hb dX5_nearNext_27 (by decide) (fun c5 => ?_) (fun c5 => ?_)
          · have hf := it_t hf c5
            exact w58 (f_X5_nearNext_2 F sRo p2 n) ih x3 sNe H locs ls hf hP hD hS (lv_sub hl [0, 1, 2, 3] rfl)
          · have hf := it_f hf c5
            refine lv_aload_n hx hb dX5_nearNext_30 rfl (lv_at hl 0 rfl) ?_
            refine va_get (D := D) (ci := 4) (v := .ref (hNe 2)) (C := RX5) (T := TX5) (N := 3) hx hb hts iX5 hown hK hP 0 (rwl o_Ne) rfl 2 (by decide) (htl _ (mB5 _ (List.mem_of_getElem? (i := 1) rfl))) (fun _ h9 => h9) rfl dX5_nearNext_31 ?_
            refine lv_iload_n hx hb dX5_nearNext_34 rfl (lv_at hl 3 rfl) ?_
            refine lv_aload_n hx hb dX5_nearNext_35 rfl (lv_at hl 0 rfl) ?_
            refine va_get (D := D) (ci := 4) (v := .ref (hNe 2)) (C := RX5) (T := TX5) (N := 3) hx hb hts iX5 hown hK hP 0 (rwl o_Ne) rfl 2 (by decide) (htl _ (mB5 _ (List.mem_of_getElem? (i := 1) rfl))) (fun _ h9 => h9) rfl dX5_nearNext_36 ?_
            refine lv_iload_n hx hb dX5_nearNext_39 rfl (lv_at hl 3 rfl) ?_
            obtain ⟨g6, hf⟩ := gd_s hf
            refine va_iald hx hb hK hP 3 0 (f := sNe.2.2.1 2) (rwl a_Ne_2) rfl (vpb_in g6) dX5_nearNext_40 ?_
            refine lv_aload_n hx hb dX5_nearNext_41 rfl (lv_at hl 0 rfl) ?_
            refine va_get (D := D) (ci := 4) (v := .ref (hNe 2)) (C := RX5) (T := TX5) (N := 3) hx hb hts iX5 hown hK hP 0 (rwl o_Ne) rfl 2 (by decide) (htl _ (mB5 _ (List.mem_of_getElem? (i := 1) rfl))) (fun _ h9 => h9) rfl dX5_nearNext_42 ?_
            refine lv_iload_n hx hb dX5_nearNext_45 rfl (lv_at hl 2 rfl) ?_
            obtain ⟨g7, hf⟩ := gd_s hf
            refine va_iald hx hb hK hP 3 0 (f := sNe.2.2.1 2) (rwl a_Ne_2) rfl (vpb_in g7) dX5_nearNext_46 ?_
            refine lv_aload_n hx hb dX5_nearNext_47 rfl (lv_at hl 1 rfl) ?_
            refine lv_iload_n hx hb dX5_nearNext_48 rfl (lv_at hl 2 rfl) ?_
            refine lv_iload_n hx hb dX5_nearNext_49 rfl (lv_at hl 3 rfl) ?_
            obtain ⟨o8, go8, hf⟩ := bd_s hf
            refine ro_Vi (As := [.int p2, .int x3]) (rest := [.int (sNe.2.2.1 2 p2.toNatClampNeg), .int (sNe.2.2.1 2 x3.toNatClampNeg), .int x3, .ref (hNe 2)]) ⟨hx, hb, hml, hown, hts⟩ (c_X9_pintsOf l D K F hRo sRo p2 x3 o8 go8) (cwV 2 hts (gcV_X9_pintsOf (mB49 _ (List.mem_of_getElem? (i := 22) rfl))) rfl rfl rfl hdV_X9_pintsOf ⟨Nat.le_of_ble_eq_true rfl, Nat.le_of_ble_eq_true rfl⟩) hK hP hS (va_PL (cs := [wNe K hNe gNe0 sNe, wRo K hRo sRo]) (cc := [wRo K hRo sRo]) hP (fl2 _ _) [1] rfl (fl1 _)) (va_recv hK hP (ci := 8) (q0 := (4 + 0)) rfl (rwr ln_Ne o_Ro)) rfl hl.1 rfl (Nat.le_of_ble_eq_true rfl) dX5_nearNext_50 ⟨Nat.zero_le _, Nat.zero_le _⟩ (fun H locs hP hS => ?_)
            refine lv_iadd hx hb dX5_nearNext_53 ?_
            refine va_mmin hx hb (hml.trans hl.1.symm) hown (htl _ (mB49 _ (List.mem_of_getElem? (i := 0) rfl))) (htl _ (mB49 _ (List.mem_of_getElem? (i := 1) rfl))) (htl _ (mB9 _ (List.mem_of_getElem? (i := 9) rfl))) (htl _ (mB49 _ (List.mem_of_getElem? (i := 2) rfl))) (Nat.le_of_ble_eq_true rfl) (Nat.le_of_ble_eq_true rfl) (Nat.zero_le _) (Nat.zero_le _) dX5_nearNext_54 ?_
            refine lv_topi (fun v9 ev9 => ?_)
            have hf := lz_s hf v9 ev9
            obtain ⟨g10, hf⟩ := gd_s hf
            refine va_iast hx hb hK hP hD hS 3 0 (f := sNe.2.2.1 2) (rwl a_Ne_2) rfl (vpb_in g10) dX5_nearNext_57 (fun H locs hP hD hS => ?_)
            have hP := cvP (stl sa_Ne_2 (rlt a_Ne_2)) hP
            have hD := cvD (stl sa_Ne_2 (rlt a_Ne_2)) hD
            obtain ⟨s11, es11⟩ : ∃ z, z = sA sNe 2 x3.toNatClampNeg v9 := ⟨_, rfl⟩
            have hP : va_P D vwCl (wNe K hNe gNe0 s11 ++ wRo K hRo sRo) H := by rw [es11]; exact hP
            have hD : va_D A (wNe K hNe gNe0 s11 ++ wRo K hRo sRo) := by rw [es11]; exact hD
            have hf := lz_s hf s11 es11
            exact w58 (f_X5_nearNext_2 F sRo p2 n) ih x3 s11 H locs ls hf hP hD hS (lv_sub hl [0, 1, 2, 3] rfl)
  have hen : entryFrame m args 4 = entryFrame m (([.ref (hNe 99), .ref (hRo 99), .int p2] : List Value).toArray) 4 := by rw [hargs]
  have hl := lv_entry ([.ref (hNe 99), .ref (hRo 99), .int p2]) (n := 4) (Nat.le_of_ble_eq_true rfl)
  rw [hen, lg_entry_eq]
  generalize (lg_sl ([.ref (hNe 99), .ref (hRo 99), .int p2]) ++ List.replicate (4 - (lg_sl ([.ref (hNe 99), .ref (hRo 99), .int p2])).length) Slot.unset).toArray = ls at hl ⊢
  have hl : lv_has ls 4 [(0, .ref (hNe 99)), (1, .ref (hRo 99)), (2, .int p2)] := hl
  unfold f_X5_nearNext at hf
  obtain ⟨H, hHe⟩ : ∃ z, z = s.heap := ⟨_, rfl⟩
  obtain ⟨locs, hLe⟩ : ∃ z : List Loc, z = [] := ⟨_, rfl⟩
  rw [← hLe]
  have hS : va_S A s.heap H locs := by rw [hHe, hLe]; exact hS
  have hP : va_P D vwCl (wNe K hNe gNe0 sNe ++ wRo K hRo sRo) H := by rw [hHe]; exact hP
  have hgo : W p l e (headSpec wz_X5_nearNext r_X5_nearNext).room s m args below meth c H locs 0 0 Q (F0 m 0 ls []) := by
    refine lv_iconst (v := (0 : Int32)) hx hb dX5_nearNext_0 (by decide) ?_
    refine lv_istore_n (lv' := [(3, .int (0 : Int32)), (0, .ref (hNe 99)), (1, .ref (hRo 99)), (2, .int p2)]) hx hb dX5_nearNext_1 rfl hl (by decide) rfl (fun ls hl => ?_)
    exact w2 F (0 : Int32) sNe H locs ls hf hP hD hS (lv_sub hl [1, 2, 3, 0] rfl)
  rw [hHe] at hgo
  exact hgo

theorem gcV_X5_nearNext {T0 : Cond} {own : String} {i : Nat} (h : Cond.methodLink own i yX5_nearNext ∈ wsL_law) : GoodIn (T0 :: wsL_law) (wsV own i RX5 yX5_nearNext wz_X5_nearNext) := gV h (mB51 _ (List.mem_of_getElem? (i := 23) rfl)) (mB52 _ (List.mem_of_getElem? (i := 0) rfl)) (mB2 _ (List.mem_of_getElem? (i := 10) rfl)) (mB52 _ (List.mem_of_getElem? (i := 1) rfl))
theorem hdV_X5_nearNext : yX5_nearNext.cls = RX5 ∧ yX5_nearNext.cls ≠ "java/lang/invoke/MethodHandle" ∧ yX5_nearNext.cls ≠ "java/lang/invoke/VarHandle" ∧ (parseMethodDescriptor yX5_nearNext.desc).map (fun d => d.parameters.length) = some 2 := by decide +kernel
def wz_X5_nearest : List Cond := .code yX5_nearest cX5_nearest 6 (some .int) :: wsL_law
abbrev r_X5_nearest : Room := { frames := 3, cells := 0, slots := 0, locals := 67 }
set_option maxHeartbeats 4000000 in
set_option maxRecDepth 100000 in
theorem c_X5_nearest (l : Launch) (D : va_G) (K : Nat → ClassId) (F : Nat) (hNe : Nat → Nat) (gNe0 : Nat → Nat) (hRo : Nat → Nat) (sz : Nat) (sNe : MS) (sRo : MS) (p2 : Int32) (p3 : Int32) (res : Int32 × MS) (hf : f_X5_nearest F sRo p2 p3 sNe = some res) : Met l yX5_nearest wz_X5_nearest r_X5_nearest (va_Pc [.ref (hNe 99), .ref (hRo 99), .int p2, .int p3] (PW D K (wNe K hNe gNe0 sNe ++ wRo K hRo sRo) sz)) (va_Qi (fun r u => r = res.1 ∧ u = res.2) (fun u t => BW D K (va_A (wNe K hNe gNe0 sNe ++ wRo K hRo sRo) sz) (wNe K hNe gNe0 u ++ wRo K hRo sRo) t) (va_A (wNe K hNe gNe0 sNe ++ wRo K hRo sRo) sz)) 0 0 (va_A (wNe K hNe gNe0 sNe ++ wRo K hRo sRo) sz) := by
  refine Met.ofW (cc := cX5_nearest) (maxL := 6) (ret := (some .int)) (by decide) rfl ?_
  intro p e s m args below meth c s₁ B hml hv
  obtain ⟨hargs, hsz, hP, hK, hD0⟩ := hv
  have hx := B.exec
  have hb := B.bytes
  have hr := B.returns
  have hts := atoms_spec (ws := wz_X5_nearest) B.pre
  have htl : ∀ w ∈ wsL_law, w.before args s = true := fun w h => hts w (List.mem_cons_of_mem _ h)
  have hown : s.vm.findClass RX5 = some m.cls := findClass_of_methodNamed B.named
  have hlocks := B.notSynchronized
  subst hsz
  have hD := hD0.self (sz := s.heap.size)
  generalize hAe : va_A (wNe K hNe gNe0 sNe ++ wRo K hRo sRo) s.heap.size = A at hD ⊢
  have hA : ∀ q : Nat, s.heap.size ≤ q → A q := fun q h => by rw [← hAe]; exact Or.inr h
  have hS : va_S A s.heap s.heap [] := va_S.rf
  have iX5 : ∀ w ∈ wsX50, w ∈ wz_X5_nearest := fun w h => List.mem_cons_of_mem _ (inlX5 w h)
  have iX9 : ∀ w ∈ wsX90, w ∈ wz_X5_nearest := fun w h => List.mem_cons_of_mem _ (inlX9 w h)
  suffices hgo : ∀ Q : State → Prop, Q = MQ below (va_Qi (fun r u => r = res.1 ∧ u = res.2) (fun u t => BW D K A (wNe K hNe gNe0 u ++ wRo K hRo sRo) t) A) args s 0 0 A → W p l e (headSpec wz_X5_nearest r_X5_nearest).room s m args below meth c s.heap [] 0 0 Q (entryFrame m args 6) from hgo _ rfl
  intro Q hQ
  have w57 : ∀ (sNe : MS), ∀ (H : Heap) (locs : List Loc) (ls : Array Slot), f_X5_nearest_57 F sRo p2 p3 sNe = some res → va_P D vwCl (wNe K hNe gNe0 sNe ++ wRo K hRo sRo) H → va_D A (wNe K hNe gNe0 sNe ++ wRo K hRo sRo) → va_S A s.heap H locs → lv_has ls 6 [(0, .ref (hNe 99)), (3, .int p3)] → W p l e (headSpec wz_X5_nearest r_X5_nearest).room s m args below meth c H locs 0 0 Q (F0 m 57 ls []) := by
    intro sNe H locs ls hf hP hD hS hl
    unfold f_X5_nearest_57 at hf
    refine lv_aload_n hx hb dX5_nearest_57 rfl (lv_at hl 0 rfl) ?_
    refine va_get (D := D) (ci := 4) (v := .ref (hNe 2)) (C := RX5) (T := TX5) (N := 3) hx hb hts iX5 hown hK hP 0 (rwl o_Ne) rfl 2 (by decide) (htl _ (mB5 _ (List.mem_of_getElem? (i := 1) rfl))) (fun _ h9 => h9) rfl dX5_nearest_58 ?_
    refine lv_iload_n hx hb dX5_nearest_61 rfl (lv_at hl 1 rfl) ?_
    obtain ⟨g10, hf⟩ := gd_s hf
    refine va_iald hx hb hK hP 3 0 (f := sNe.2.2.1 2) (rwl a_Ne_2) rfl (vpb_in g10) dX5_nearest_62 ?_
    refine lv_ldc (v := (268435456 : Int32)) hx hb hown (htl _ (mB48 _ (List.mem_of_getElem? (i := 21) rfl))) dX5_nearest_63 ?_
    refine lv_icmp_ne (tgt := 73) hx hb dX5_nearest_65 (by decide) (fun c11 => ?_) (fun c11 => ?_)
    · have hf := it_f hf c11
      refine lv_aload_n hx hb dX5_nearest_73 rfl (lv_at hl 0 rfl) ?_
      refine va_get (D := D) (ci := 4) (v := .ref (hNe 2)) (C := RX5) (T := TX5) (N := 3) hx hb hts iX5 hown hK hP 0 (rwl o_Ne) rfl 2 (by decide) (htl _ (mB5 _ (List.mem_of_getElem? (i := 1) rfl))) (fun _ h9 => h9) rfl dX5_nearest_74 ?_
      refine lv_iload_n hx hb dX5_nearest_77 rfl (lv_at hl 1 rfl) ?_
      obtain ⟨g12, hf⟩ := gd_s hf
      refine va_iald hx hb hK hP 3 0 (f := sNe.2.2.1 2) (rwl a_Ne_2) rfl (vpb_in g12) dX5_nearest_78 ?_
      have e9 := Option.some.inj hf
      rw [hQ]
      exact W.iret (v := (sNe.2.2.1 2 p3.toNatClampNeg)) hx hb hr (fun t ht hW => ⟨⟨(sNe.2.2.1 2 p3.toNatClampNeg), sNe, rfl, ⟨pr1 e9, pr2 e9⟩, ⟨by rw [ht]; exact hP, va_K.moved hW.alike hK, hD⟩⟩, hS.F ht⟩) hS.2.2 dX5_nearest_79
    · have hf := it_t hf c11
      refine lv_bipush (v := (-2 : Int32)) hx hb dX5_nearest_68 (by decide) ?_
      refine lv_goto (tgt := 79) hx hb dX5_nearest_70 (by decide) ?_
      have e9 := Option.some.inj hf
      rw [hQ]
      exact W.iret (v := (-2 : Int32)) hx hb hr (fun t ht hW => ⟨⟨(-2 : Int32), sNe, rfl, ⟨pr1 e9, pr2 e9⟩, ⟨by rw [ht]; exact hP, va_K.moved hW.alike hK, hD⟩⟩, hS.F ht⟩) hS.2.2 dX5_nearest_79
  have w51 : ∀ (k19 : Int32 → MS → Option (Int32 × MS)), (∀ (x4 : Int32), ∀ (sNe : MS), ∀ (H : Heap) (locs : List Loc) (ls : Array Slot), k19 x4 sNe = some res → va_P D vwCl (wNe K hNe gNe0 sNe ++ wRo K hRo sRo) H → va_D A (wNe K hNe gNe0 sNe ++ wRo K hRo sRo) → va_S A s.heap H locs → lv_has ls 6 [(0, .ref (hNe 99)), (1, .ref (hRo 99)), (3, .int p3), (4, .int x4)] → W p l e (headSpec wz_X5_nearest r_X5_nearest).room s m args below meth c H locs 0 0 Q (F0 m 19 ls [])) → ∀ (x4 : Int32), ∀ (sNe : MS), ∀ (H : Heap) (locs : List Loc) (ls : Array Slot), f_X5_nearest_51 F sRo p2 p3 k19 x4 sNe = some res → va_P D vwCl (wNe K hNe gNe0 sNe ++ wRo K hRo sRo) H → va_D A (wNe K hNe gNe0 sNe ++ wRo K hRo sRo) → va_S A s.heap H locs → lv_has ls 6 [(0, .ref (hNe 99)), (1, .ref (hRo 99)), (3, .int p3), (4, .int x4)] → W p l e (headSpec wz_X5_nearest r_X5_nearest).room s m args below meth c H locs 0 0 Q (F0 m 51 ls []) := by
    intro k19 hk19 x4 sNe H locs ls hf hP hD hS hl
    unfold f_X5_nearest_51 at hf
    obtain ⟨v9, ev9⟩ : ∃ z : Int32, z = x4 + (1 : Int32) := ⟨_, rfl⟩
    have hf := lz_s hf v9 ev9
    refine lv_iinc (v := v9) (lv' := [(4, .int v9), (0, .ref (hNe 99)), (1, .ref (hRo 99)), (3, .int p3)]) hx hb dX5_nearest_51 hl (k := 3) rfl (by rw [ev9]; rfl) (by decide) rfl (fun ls hl => ?_)
    refine lv_goto (tgt := 19) hx hb dX5_nearest_54 (by decide) ?_
    exact hk19 v9 sNe H locs ls hf hP hD hS (lv_sub hl [1, 2, 3, 0] rfl)
  have w29 : ∀ (k19 : Int32 → MS → Option (Int32 × MS)), (∀ (x4 : Int32), ∀ (sNe : MS), ∀ (H : Heap) (locs : List Loc) (ls : Array Slot), k19 x4 sNe = some res → va_P D vwCl (wNe K hNe gNe0 sNe ++ wRo K hRo sRo) H → va_D A (wNe K hNe gNe0 sNe ++ wRo K hRo sRo) → va_S A s.heap H locs → lv_has ls 6 [(0, .ref (hNe 99)), (1, .ref (hRo 99)), (3, .int p3), (4, .int x4)] → W p l e (headSpec wz_X5_nearest r_X5_nearest).room s m args below meth c H locs 0 0 Q (F0 m 19 ls [])) → ∀ (n : Nat), ∀ (x4 : Int32), ∀ (x5 : Int32), ∀ (sNe : MS), ∀ (H : Heap) (locs : List Loc) (ls : Array Slot), f_X5_nearest_29 F sRo p2 p3 k19 n x4 x5 sNe = some res → va_P D vwCl (wNe K hNe gNe0 sNe ++ wRo K hRo sRo) H → va_D A (wNe K hNe gNe0 sNe ++ wRo K hRo sRo) → va_S A s.heap H locs → lv_has ls 6 [(0, .ref (hNe 99)), (1, .ref (hRo 99)), (3, .int p3), (4, .int x4), (5, .int x5)] → W p l e (headSpec wz_X5_nearest r_X5_nearest).room s m args below meth c H locs 0 0 Q (F0 m 29 ls []) := by
    intro k19 hk19 n
    induction n with
    | zero =>
      intro x4 x5 sNe H locs ls hf
      exact absurd (show none = some res from hf) (fun h => nomatch h)
    | succ n ih =>
      intro x4 x5 sNe H locs ls hf hP hD hS hl
      rw [f_X5_nearest_29] at hf
      refine lv_iload hx hb dX5_nearest_29 (lv_at hl 4 rfl) ?_
      refine lv_aload_n hx hb dX5_nearest_31 rfl (lv_at hl 1 rfl) ?_
      refine va_get (D := D) (ci := 8) (v := .int (sRo.1 5)) (C := RX9) (T := TX9) (N := 19) hx hb hts iX9 hown hK hP (4 + 0) (rwr ln_Ne o_Ro) rfl 5 (by decide) (htl _ (mB48 _ (List.mem_of_getElem? (i := 20) rfl))) (fun _ h9 => h9) rfl dX5_nearest_32 ?_
      refine lv_icmp_ge (tgt := 51) hx hb dX5_nearest_35 (by decide) (fun c6 => ?_) (fun c6 => ?_)
      · have hf := it_t hf c6
        exact w51 k19 hk19 x4 sNe H locs ls hf hP hD hS (lv_sub hl [0, 1, 2, 3] rfl)
      · have hf := it_f hf c6
        refine lv_aload_n hx hb dX5_nearest_38 rfl (lv_at hl 0 rfl) ?_
        refine lv_aload_n hx hb dX5_nearest_39 rfl (lv_at hl 1 rfl) ?_
        refine lv_iload hx hb dX5_nearest_40 (lv_at hl 4 rfl) ?_
        obtain ⟨o7, go7, hf⟩ := bd_s hf
        refine rs_Vv (As := [.ref (hRo 99), .int x5]) (rest := []) ⟨hx, hb, hml, hown, hts⟩ (c_X5_nearNext l D K F hNe gNe0 hRo H.size sNe sRo x5 o7 go7) (cwV 2 hts (gcV_X5_nearNext (mB51 _ (List.mem_of_getElem? (i := 22) rfl))) rfl rfl rfl hdV_X5_nearNext ⟨Nat.le_of_ble_eq_true rfl, Nat.le_of_ble_eq_true rfl⟩) hK hP hD hS hA (va_recv hK hP (ci := 4) (q0 := 0) rfl (rwl o_Ne)) rfl hl.1 rfl (Nat.le_of_ble_eq_true rfl) dX5_nearest_42 ⟨Nat.zero_le _, Nat.zero_le _⟩ (fun H locs hP hD hS => ?_)
        have hP : va_P D vwCl (wNe K hNe gNe0 o7 ++ wRo K hRo sRo) H := hP
        have hD : va_D A (wNe K hNe gNe0 o7 ++ wRo K hRo sRo) := hD
        obtain ⟨v8, ev8⟩ : ∃ z : Int32, z = x5 + (1 : Int32) := ⟨_, rfl⟩
        have hf := lz_s hf v8 ev8
        refine lv_iinc (v := v8) (lv' := [(5, .int v8), (0, .ref (hNe 99)), (1, .ref (hRo 99)), (3, .int p3), (4, .int x4)]) hx hb dX5_nearest_45 hl (k := 4) rfl (by rw [ev8]; rfl) (by decide) rfl (fun ls hl => ?_)
        refine lv_goto (tgt := 29) hx hb dX5_nearest_48 (by decide) ?_
        exact ih x4 v8 o7 H locs ls hf hP hD hS (lv_sub hl [1, 2, 3, 4, 0] rfl)
  have w19 : ∀ (n : Nat), ∀ (x4 : Int32), ∀ (sNe : MS), ∀ (H : Heap) (locs : List Loc) (ls : Array Slot), f_X5_nearest_19 F sRo p2 p3 n x4 sNe = some res → va_P D vwCl (wNe K hNe gNe0 sNe ++ wRo K hRo sRo) H → va_D A (wNe K hNe gNe0 sNe ++ wRo K hRo sRo) → va_S A s.heap H locs → lv_has ls 6 [(0, .ref (hNe 99)), (1, .ref (hRo 99)), (3, .int p3), (4, .int x4)] → W p l e (headSpec wz_X5_nearest r_X5_nearest).room s m args below meth c H locs 0 0 Q (F0 m 19 ls []) := by
    intro n
    induction n with
    | zero =>
      intro x4 sNe H locs ls hf
      exact absurd (show none = some res from hf) (fun h => nomatch h)
    | succ n ih =>
      intro x4 sNe H locs ls hf hP hD hS hl
      rw [f_X5_nearest_19] at hf
      refine lv_iload hx hb dX5_nearest_19 (lv_at hl 3 rfl) ?_
      refine lv_bipush (v := (9 : Int32)) hx hb dX5_nearest_21 (by decide) ?_
      refine lv_icmp_ge (tgt := 57) hx hb dX5_nearest_23 (by decide) (fun c5 => ?_) (fun c5 => ?_)
      · have hf := it_t hf c5
        exact w57 sNe H locs ls hf hP hD hS (lv_sub hl [0, 2] rfl)
      · have hf := it_f hf c5
        refine lv_iconst (v := (0 : Int32)) hx hb dX5_nearest_26 (by decide) ?_
        refine lv_istore (lv' := [(5, .int (0 : Int32)), (0, .ref (hNe 99)), (1, .ref (hRo 99)), (3, .int p3), (4, .int x4)]) hx hb dX5_nearest_27 hl (by decide) rfl (fun ls hl => ?_)
        exact w29 (f_X5_nearest_19 F sRo p2 p3 n) ih F x4 (0 : Int32) sNe H locs ls hf hP hD hS (lv_sub hl [1, 2, 3, 4, 0] rfl)
  have hen : entryFrame m args 6 = entryFrame m (([.ref (hNe 99), .ref (hRo 99), .int p2, .int p3] : List Value).toArray) 6 := by rw [hargs]
  have hl := lv_entry ([.ref (hNe 99), .ref (hRo 99), .int p2, .int p3]) (n := 6) (Nat.le_of_ble_eq_true rfl)
  rw [hen, lg_entry_eq]
  generalize (lg_sl ([.ref (hNe 99), .ref (hRo 99), .int p2, .int p3]) ++ List.replicate (6 - (lg_sl ([.ref (hNe 99), .ref (hRo 99), .int p2, .int p3])).length) Slot.unset).toArray = ls at hl ⊢
  have hl : lv_has ls 6 [(0, .ref (hNe 99)), (1, .ref (hRo 99)), (2, .int p2), (3, .int p3)] := hl
  unfold f_X5_nearest at hf
  obtain ⟨H, hHe⟩ : ∃ z, z = s.heap := ⟨_, rfl⟩
  obtain ⟨locs, hLe⟩ : ∃ z : List Loc, z = [] := ⟨_, rfl⟩
  rw [← hLe]
  have hS : va_S A s.heap H locs := by rw [hHe, hLe]; exact hS
  have hP : va_P D vwCl (wNe K hNe gNe0 sNe ++ wRo K hRo sRo) H := by rw [hHe]; exact hP
  have hgo : W p l e (headSpec wz_X5_nearest r_X5_nearest).room s m args below meth c H locs 0 0 Q (F0 m 0 ls []) := by
    refine lv_aload_n hx hb dX5_nearest_0 rfl (lv_at hl 0 rfl) ?_
    refine va_get (D := D) (ci := 4) (v := .ref (hNe 2)) (C := RX5) (T := TX5) (N := 3) hx hb hts iX5 hown hK hP 0 (rwl o_Ne) rfl 2 (by decide) (htl _ (mB5 _ (List.mem_of_getElem? (i := 1) rfl))) (fun _ h9 => h9) rfl dX5_nearest_1 ?_
    refine lv_ldc (v := (268435456 : Int32)) hx hb hown (htl _ (mB48 _ (List.mem_of_getElem? (i := 21) rfl))) dX5_nearest_4 ?_
    obtain ⟨o1, go1, hf⟩ := bd_s hf
    refine rw_Sv (wn := wNe K hNe gNe0 (wA sNe 2 o1) ++ wRo K hRo sRo) (As := [.ref (hNe 2), .int (268435456 : Int32)]) (rest := []) ⟨hx, hb, hml, hown, hts⟩ (c_J7_fill_53178 l D K F (hNe 2) 9 H.size (sNe.2.2.1 2) (268435456 : Int32) o1 go1) (va_cwS 2 hts (gcS_J7_fill_53178 (mB49 _ (List.mem_of_getElem? (i := 3) rfl))) rfl rfl rfl hdS_J7_fill_53178 ⟨Nat.le_of_ble_eq_true rfl, Nat.le_of_ble_eq_true rfl⟩) hK hP hD hS hA [3] [0, 1, 2, 4, 5, 6, 7, 8, 9, 10, 11, 12, 13] [0, 1, 2, 13, 3, 4, 5, 6, 7, 8, 9, 10, 11, 12] rfl rfl (by decide +kernel) (by decide +kernel) (by decide +kernel) rfl (by decide +kernel) rfl hl.1 rfl (Nat.le_of_ble_eq_true rfl) dX5_nearest_6 ⟨Nat.zero_le _, Nat.zero_le _⟩ (fun H locs hP hD hS => ?_)
    have hP : va_P D vwCl (wNe K hNe gNe0 (wA sNe 2 o1) ++ wRo K hRo sRo) H := hP
    have hD : va_D A (wNe K hNe gNe0 (wA sNe 2 o1) ++ wRo K hRo sRo) := hD
    obtain ⟨s2, es2⟩ : ∃ z, z = (wA sNe 2 o1) := ⟨_, rfl⟩
    have hP : va_P D vwCl (wNe K hNe gNe0 s2 ++ wRo K hRo sRo) H := by rw [es2]; exact hP
    have hD : va_D A (wNe K hNe gNe0 s2 ++ wRo K hRo sRo) := by rw [es2]; exact hD
    have hf := lz_s hf s2 es2
    refine lv_aload_n hx hb dX5_nearest_9 rfl (lv_at hl 0 rfl) ?_
    refine va_get (D := D) (ci := 4) (v := .ref (hNe 2)) (C := RX5) (T := TX5) (N := 3) hx hb hts iX5 hown hK hP 0 (rwl o_Ne) rfl 2 (by decide) (htl _ (mB5 _ (List.mem_of_getElem? (i := 1) rfl))) (fun _ h9 => h9) rfl dX5_nearest_10 ?_
    refine lv_iload_n hx hb dX5_nearest_13 rfl (lv_at hl 2 rfl) ?_
    refine lv_iconst (v := (0 : Int32)) hx hb dX5_nearest_14 (by decide) ?_
    obtain ⟨g3, hf⟩ := gd_s hf
    refine va_iast hx hb hK hP hD hS 3 0 (f := s2.2.2.1 2) (rwl a_Ne_2) rfl (vpb_in g3) dX5_nearest_15 (fun H locs hP hD hS => ?_)
    have hP := cvP (stl sa_Ne_2 (rlt a_Ne_2)) hP
    have hD := cvD (stl sa_Ne_2 (rlt a_Ne_2)) hD
    obtain ⟨s4, es4⟩ : ∃ z, z = sA s2 2 p2.toNatClampNeg (0 : Int32) := ⟨_, rfl⟩
    have hP : va_P D vwCl (wNe K hNe gNe0 s4 ++ wRo K hRo sRo) H := by rw [es4]; exact hP
    have hD : va_D A (wNe K hNe gNe0 s4 ++ wRo K hRo sRo) := by rw [es4]; exact hD
    have hf := lz_s hf s4 es4
    refine lv_iconst (v := (0 : Int32)) hx hb dX5_nearest_16 (by decide) ?_
    refine lv_istore (lv' := [(4, .int (0 : Int32)), (0, .ref (hNe 99)), (1, .ref (hRo 99)), (2, .int p2), (3, .int p3)]) hx hb dX5_nearest_17 hl (by decide) rfl (fun ls hl => ?_)
    exact w19 F (0 : Int32) s4 H locs ls hf hP hD hS (lv_sub hl [1, 2, 4, 0] rfl)
  rw [hHe] at hgo
  exact hgo
