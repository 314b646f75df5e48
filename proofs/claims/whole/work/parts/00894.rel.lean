/-! the whole relation, and what a call does to it -/
def REL (sMn : MS) (f : Nat → Int32) (sRo sPl sJo sJk sJi sMo : MS) : Prop :=
  RR sRo (sMo.2.2.1 15) ∧ HR (sMo.2.2.1 15) (sMo.1 14) ∧ PP sPl sMo ∧ JR (sMo.2.2.1 15) (sMo.1 14) sJo sJk sJi sMo ∧ TAPE sMn f sMo ∧ sMn.1 11 = sMo.1 11 ∧ sMn.1 12 = sMo.1 9 ∧ (sMo.1 11 = 4 → sMn.1 13 = sMo.1 10)
theorem REL_J {sMn sRo sPl sJo sJk sJi sMo sMn' sJo' sJk' sJi' sMo' : MS} {f : Nat → Int32} (R : REL sMn f sRo sPl sJo sJk sJi sMo) (T : TJ sMn sMo sMn' sMo') (h4 : sMn'.1 11 ≠ 4) (J : JR (sMo.2.2.1 15) (sMo.1 14) sJo' sJk' sJi' sMo') : REL sMn' f sRo sPl sJo' sJk' sJi' sMo' := by
  obtain ⟨t, rfl, h0, h11, hk, ha⟩ := T
  rw [sI_s] at h4
  obtain ⟨r1, r2, r3, r4, r5, r6, r7, r8⟩ := R
  have e15 := ha 15 (by omega)
  have e14 := hk 14 (by omega) (by omega) (by omega)
  refine ⟨by rw [e15]; exact r1, by rw [e15, e14]; exact r2, ?_, by rw [e15, e14]; exact J, ?_, ?_, ?_, ?_⟩
  · intro i hi
    rw [ha 17 (by omega)]
    exact r3 i hi
  · obtain ⟨u, a1, a2, a3, a4⟩ := r5
    exact ⟨u, a1, by rw [sI_n _ _ _ _ (by decide)]; exact a2, by rw [hk 2 (by omega) (by omega) (by omega)]; exact a3, fun k hk' => by rw [ha 1 (by omega)]; exact a4 k hk'⟩
  · rw [sI_s, h11]
  · rw [sI_n _ _ _ _ (by decide), hk 9 (by omega) (by omega) (by omega)]
    exact r7
  · intro h
    rw [h11] at h
    exact absurd h h4
theorem REL_P {sMn sRo sPl sJo sJk sJi sMo sPl' : MS} {f : Nat → Int32} (R : REL sMn f sRo sPl sJo sJk sJi sMo) (h : sPl'.2.2.1 = sPl.2.2.1) : REL sMn f sRo sPl' sJo sJk sJi sMo := by
  obtain ⟨r1, r2, r3, r4⟩ := R
  refine ⟨r1, r2, ?_, r4⟩
  unfold PP at *
  rw [h]
  exact r3
theorem REL_U {sMn sRo sPl sJo sJk sJi sMo sMn' sMo' : MS} {f : Nat → Int32} (R : REL sMn f sRo sPl sJo sJk sJi sMo) (T : TU sMn sMo sMn' sMo') (h4 : sMn'.1 11 ≠ 4) : REL sMn' f sRo sPl sJo sJk sJi sMo' := by
  obtain ⟨t, h1, h0, h11, hk, ha⟩ := T
  exact REL_J R ⟨t, h1, h0, h11, fun k a b c => hk k (by omega) b c, fun a h => ha a (by omega)⟩ h4 (JR_n R.2.2.2.1 (hk 21 (by omega) (by omega) (by omega)) (hk 22 (by omega) (by omega) (by omega)) (ha 18 (by omega)) (ha 19 (by omega)) (ha 20 (by omega)))
theorem REL_T {sMn sRo sPl sJo sJk sJi sMo sMn' sMo' : MS} {f : Nat → Int32} (R : REL sMn f sRo sPl sJo sJk sJi sMo) (T : TT sMn sMo sMn' sMo') (h4 : sMn'.1 11 ≠ 4) : REL sMn' f sRo sPl sJo sJk sJi sMo' := by
  obtain ⟨t, h1, h2, h0, h11, hk⟩ := T
  exact REL_U R ⟨t, h1, h0, h11, fun k _ b c => hk k b c, fun a _ => by rw [h2]⟩ h4
theorem REL_0 {sMn sRo sPl sJo sJk sJi sMo : MS} {f : Nat → Int32} (R : REL sMn f sRo sPl sJo sJk sJi sMo) (v : Int32) : REL sMn f sRo sPl sJo sJk sJi (sI sMo 0 v) := by
  obtain ⟨r1, r2, r3, r4, r5, r6, r7, r8⟩ := R
  exact ⟨r1, r2, r3, JR_n r4 rfl rfl rfl rfl rfl, r5, r6, r7, r8⟩
theorem S_plan {F : Nat} {sMn sRo sPl sJo sJk sJi sMo : MS} {f : Nat → Int32} (R : REL sMn f sRo sPl sJo sJk sJi sMo) (a x : Int32) :
    ∃ v sMn' sPl' sMo', f_X10_plan F sRo a x sMn sPl = some (v, sMn', sPl') ∧ f_X11_plan F a x sMo = some (v, sMo') ∧ REL sMn' f sRo sPl' sJo sJk sJi sMo' := by
  rcases P_plan (F := F) (sMn := sMn) R.1 R.2.1 R.2.2.1 a x with ⟨v, sMn', sMo', f1, f2, t⟩ | ⟨i, hi, x0, x1, f1, f2⟩
  · exact ⟨v, sMn', sPl, sMo', f1, f2, REL_T R t (n4_plan _ f1)⟩
  · refine ⟨1, sI sMn 11 0, sA sPl 0 i x, _, f1, f2, ?_⟩
    have R1 := REL_T R (TT_ok sMn sMo) (by rw [sI_s]; decide)
    obtain ⟨r1, r2, r3, r4, r5, r6, r7, r8⟩ := R1
    refine ⟨r1, r2, ?_, JR_n r4 rfl rfl rfl rfl rfl, r5, r6, r7, r8⟩
    intro j hj
    rw [sA_u, sA_u]
    by_cases c : j = i
    · subst c
      rw [up_s, up_s]
      exact ⟨rfl, x0, x1⟩
    · rw [up_n _ _ _ _ c, up_n _ _ _ _ c]
      exact r3 j hj
theorem S_feed {F : Nat} (hF : 100 ≤ F) {sMn sRo sPl sJo sJk sJi sMo : MS} {f : Nat → Int32} (R : REL sMn f sRo sPl sJo sJk sJi sMo) (p1 p2 p3 p4 p5 : Int32) :
    ∃ v sMn' f' sMo', f_X10_feed F 800 p1 p2 p3 p4 p5 sMn f = some (v, sMn', f') ∧ f_X11_feed F p1 p2 p3 p4 p5 sMo = some (v, sMo') ∧ REL sMn' f' sRo sPl sJo sJk sJi sMo' := by
  obtain ⟨r1, r2, r3, r4, r5, r6, r7, r8⟩ := R
  obtain ⟨v, x, f', sMo', f1, f2, t, -, hk, ha⟩ := P_feed (F := F) hF r5 p1 p2 p3 p4 p5
  have e15 := ha 15 (by decide)
  have e14 := hk 14 (by decide) (by decide)
  refine ⟨v, _, f', sMo', f1, f2, by rw [e15]; exact r1, by rw [e15, e14]; exact r2, ?_, ?_, t, ?_, ?_, ?_⟩
  · intro i hi
    rw [ha 17 (by decide)]
    exact r3 i hi
  · rw [e15, e14]
    exact JR_n r4 (hk 21 (by decide) (by decide)) (hk 22 (by decide) (by decide)) (ha 18 (by decide)) (ha 19 (by decide)) (ha 20 (by decide))
  · rw [sI_n _ _ _ _ (by decide), hk 11 (by decide) (by decide)]
    exact r6
  · rw [sI_n _ _ _ _ (by decide), hk 9 (by decide) (by decide)]
    exact r7
  · rw [sI_n _ _ _ _ (by decide), hk 11 (by decide) (by decide), hk 10 (by decide) (by decide)]
    exact r8
/-- road: the tag says which of the two Roads is the road, and what the reader holds -/
theorem S_road {F : Nat} (hF : 1001 ≤ F) {sMn sRo sSp sRd sPl sJo sJk sJi sJw sMo : MS} {f : Nat → Int32} (R : REL sMn f sRo sPl sJo sJk sJi sMo) (p : Int32) :
    ∃ v tg sMn' sRd' sPl' sJo' sJw' sSp' sMo', f_X10_road F 800 f p sMn sRd sPl sJo sJw sSp = some (v, tg, sMn', sRd', sPl', sJo', sJw', sSp') ∧ f_X11_road F p sMo = some (v, sMo') ∧ ((tg = 0 ∧ REL sMn' f sSp' sPl' sJo' sJk sJi sMo') ∨ ((tg = 1 ∨ tg = 2) ∧ REL sMn' f sRo sPl' sJo' sJk sJi sMo')) := by
  obtain ⟨r1, r2, r3, r4, r5, r6, r7, r8⟩ := id R
  rcases P_road (F := F) hF (sRd := sRd) (sPl := sPl) (sJi := sJi) (sJw := sJw) (sSp := sSp) r5 r4.2.2.1 p with ⟨v, sMn', sRd', sPl', sJo', sJw', sSp', sMo', f1, f2, a1, a2, a3, a4, a5, a6, a7, a8, -⟩ | ⟨sMn', sRd', sSp', sMo', f1, f2, a1, a2, a3, a4, a5, -, a6, a7⟩ | ⟨f1, f2⟩
  · exact ⟨v, 0, _, _, _, _, _, _, _, f1, f2, Or.inl ⟨rfl, a1, a2, a3, a4, a5, a6.trans a7.symm, a8, fun h => by rw [a7] at h; exact absurd h (by decide)⟩⟩
  · have e15 := a7 15 (by decide) (by decide)
    have e14 := a6 14 (by omega)
    refine ⟨-1, 1, _, _, _, _, _, _, _, f1, f2, Or.inr ⟨Or.inl rfl, by rw [e15]; exact r1, by rw [e15, e14]; exact r2, ?_, ?_, a1, a2.trans a3.symm, a4, fun _ => a5⟩⟩
    · intro i hi
      rw [a7 17 (by decide) (by decide)]
      exact r3 i hi
    · rw [e15, e14]
      exact JR_n r4 (a6 21 (by omega)) (a6 22 (by omega)) (a7 18 (by decide) (by decide)) (a7 19 (by decide) (by decide)) (a7 20 (by decide) (by decide))
  · exact ⟨-1, 2, _, _, _, _, _, _, _, f1, f2, Or.inr ⟨Or.inr rfl, REL_T R (TT_no sMn sMo 2) (by rw [sI_s]; decide)⟩⟩
theorem S_fault {F : Nat} {sMn sRo sPl sJo sJk sJi sMo : MS} {f : Nat → Int32} (R : REL sMn f sRo sPl sJo sJk sJi sMo) : ∃ v, f_X10_fault F sMn = some v ∧ f_X11_fault F sMo = some (v, sI sMo 0 0) := by
  refine ⟨sMn.1 12, rfl, ?_⟩
  unfold f_X11_fault
  rw [R.2.2.2.2.2.2.1]
  rfl
theorem S_trouble {F : Nat} {sMn sRo sPl sJo sJk sJi sMo : MS} {f : Nat → Int32} (R : REL sMn f sRo sPl sJo sJk sJi sMo) : ∃ v, f_X10_trouble F sMn = some v ∧ f_X11_trouble F sMo = some (v, sI sMo 0 0) := by
  refine ⟨sMn.1 11, rfl, ?_⟩
  unfold f_X11_trouble
  rw [R.2.2.2.2.2.1]
  rfl
theorem S_where {F : Nat} {sMn sRo sPl sJo sJk sJi sMo : MS} {f : Nat → Int32} (R : REL sMn f sRo sPl sJo sJk sJi sMo) : ∃ v, f_X10_where F sMn = some v ∧ f_X11_where F sMo = some (v, sI sMo 0 0) := by
  have e := R.2.2.2.2.2.1
  unfold f_X10_where f_X11_where
  by_cases c : sMo.1 11 = 4
  · refine ⟨sMn.1 13, by rw [e, if_pos c], ?_⟩
    rw [R.2.2.2.2.2.2.2 c]
    rw [lz_t, show (sI sMo 0 0).1 11 = sMo.1 11 from rfl, if_pos c]
    rfl
  · refine ⟨-1, by rw [e, if_neg c], ?_⟩
    rw [lz_t, show (sI sMo 0 0).1 11 = sMo.1 11 from rfl, if_neg c]
theorem S_size {F : Nat} {sMn sRo sPl sJo sJk sJi sMo : MS} {f : Nat → Int32} (R : REL sMn f sRo sPl sJo sJk sJi sMo) (p : Int32) : ∃ v, f_X10_size F sMn sJo sRo p = some v ∧ f_X11_size F p sMo = some (v, sI sMo 0 0) := by
  obtain ⟨t, t1, t2, t3, t4⟩ := R.2.2.2.2.1
  exact P_size R.1 R.2.1 R.2.2.2.1 (t2.trans t3.symm) p
def zz0 : MS := (fun _ => 0, fun _ => 0, fun _ _ => 0, fun _ _ => 0)
/-- at the start -/
theorem REL_start : REL zz0 (fun _ => 0) zz0 zz0 zz0 zz0 zz0 (sI zz0 10 (-1)) := by
  have h0 : (0 : Int32).toInt = 0 := rfl
  refine ⟨⟨fun _ _ => rfl, fun _ _ => rfl, fun _ _ => rfl, fun _ _ => ⟨rfl, rfl, rfl⟩, fun _ _ => rfl, rfl, fun i hi => ?_, fun _ _ => ⟨rfl, rfl⟩⟩, Or.inr ⟨rfl, fun _ _ => rfl⟩, fun i _ => ⟨rfl, show (0 : Int) ≤ (0 : Int32).toInt by decide, show (0 : Int32).toInt ≤ 40 by decide⟩, ⟨fun h => absurd h (by decide), fun _ => ⟨rfl, rfl, rfl⟩, ⟨0, 0, by omega, by omega, rfl, rfl, rfl, fun j hj => by omega⟩, ⟨0, by omega, rfl, rfl, fun j hj => by omega⟩⟩, ⟨0, by omega, rfl, rfl, fun k hk => by omega⟩, rfl, rfl, fun h => absurd h (by decide)⟩
  have hi : (i : Int) + 1 < (0 : Int32).toInt := hi
  omega
