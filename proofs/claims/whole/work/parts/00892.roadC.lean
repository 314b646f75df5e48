/-! a road that was read; the call -/
theorem PK_c {r r' : Nat → Int32} (h : ∀ j, j < 300 → r' j = r j) (H : PK r) : PK r' := by
  have t8 := H.nu.2.2.2.1
  have t9 := H.nu.2.2.2.2
  refine ⟨?_, ?_, RoK_c (fun k hk => h _ (by omega)) (by rw [h 5 (by omega)]; exact Int.le_refl _) H.ro, MiK_c (fun k hk => h _ (by omega)) H.mi, PuK_c (fun k hk => h _ (by omega)) H.pu, WyK_c (h 8 (by omega)) (by omega) (fun i hi => h _ (by omega)) (fun k hk g => by rw [h _ (by omega)]; exact g) (by rw [h 5 (by omega)]; exact Int.le_refl _) H.nu.1.2 H.wy, ReK_c (h 9 (by omega)) (by omega) (fun i hi => h _ (by omega)) (fun q hq g => by rw [h _ (by omega)]; exact g) (by rw [h 5 (by omega)]; exact Int.le_refl _) H.nu.1.2 H.re⟩
  · rcases H.ca with ⟨a, b⟩ | b
    · exact Or.inl ⟨(h 10 (by omega)).trans a, fun k hk => (h k (by omega)).trans (b k hk)⟩
    · refine Or.inr ?_
      rw [h 10 (by omega), h 0 (by omega), h 1 (by omega), h 2 (by omega), h 3 (by omega), h 4 (by omega)]
      exact b
  · unfold NuK
    rw [h 5 (by omega), h 6 (by omega), h 7 (by omega), h 8 (by omega), h 9 (by omega)]
    exact H.nu
theorem RP_c {s : MS} {r r' : Nat → Int32} (h : ∀ j, j < 300 → r' j = r j) (pk : PK r) (H : RP s r) : RP s r' := by
  have t5 := pk.nu.1
  have t8 := pk.nu.2.2.2.1
  have t9 := pk.nu.2.2.2.2
  refine ⟨fun k hk => (H.num k hk).trans (h k (by omega)).symm, fun k hk => (H.pin k hk).trans (h _ (by omega)).symm, fun k hk => (H.min k hk).trans (h _ (by omega)).symm, fun q hq => ?_, fun i hi => ?_, fun hi => ?_, fun i hi => ?_, fun k hk => ?_⟩
  · rw [h (11 + 3 * q) (by omega), h (12 + 3 * q) (by omega), h (13 + 3 * q) (by omega)]
    exact H.pum q hq
  · rw [h 8 (by omega)] at hi
    rw [h (200 + i) (by omega)]
    exact H.way i hi
  · rw [h 8 (by omega)] at hi
    exact H.up0 hi
  · rw [h 8 (by omega)] at hi
    have g1 := pk.wy.1 i (by omega)
    have g2 := pk.wy.1 (i + 1) (by omega)
    have n1 := i_nat _ g1.1
    have n2 := i_nat _ g2.1
    rw [h (200 + i) (by omega), h (200 + (i + 1)) (by omega), h _ (by omega)]
    exact H.upt i hi
  · rw [h 9 (by omega)] at hk
    rw [h (209 + 2 * k) (by omega), h (210 + 2 * k) (by omega)]
    exact H.rec k hk
theorem road_end {F : Nat} (hF : 1001 ≤ F) {p : Int32} {s sSp sJo sJk sJi sJw sPl : MS} (h13 : s.1 13 = 0) (pk : PK (s.2.2.1 16)) (rp : RP sSp (s.2.2.1 16)) (h10 : s.2.2.1 16 10 ≠ 0) (h8 : 0 < (s.2.2.1 16 8).toInt) (hL : ∃ L : Nat, L < 12 ∧ sJo.1 3 = Int32.ofInt (L : Int)) :
    ∃ s' sPl' sJo' sJw', f_X11_road_164 F p s = some (sSp.1 8, s') ∧ f_X6_forget F sPl = some sPl' ∧ f_X3_begin F sSp sJw sJo = some (sJw', sJo') ∧ RR sSp (s'.2.2.1 15) ∧ ROK (s'.2.2.1 15) ∧ s'.1 14 = 1 ∧ PP sPl' s' ∧ JR (s'.2.2.1 15) 1 sJo' sJk sJi s' ∧ (∀ k, k ≠ 14 → k ≠ 21 → k ≠ 22 → k ≠ 40 → s'.1 k = s.1 k) := by
  obtain ⟨g, y1, y2, y3⟩ := cpA_go (F := F) (f := s.2.2.1 16) 300 0 F (s.2.2.1 15) (by omega) (by omega)
  have y1' : f_X11_copy F 300 (s.2.2.1 16) 300 0 0 300 (s.2.2.1 15) = some g := y1
  have yg : ∀ j, j < 300 → g j = s.2.2.1 16 j := fun j hj => y2 j (by omega) hj
  obtain ⟨g17, a1, a2⟩ := c17_go (F := F) (p := p) 9 0 F (wA s 15 g) (by omega) (by omega) (fun j hj => by omega)
  have a1' : f_X11_road_195 F p F 0 (wA s 15 g) = _ := a1
  obtain ⟨g18, b1, b2⟩ := c18_go (F := F) (p := p) 7 0 F (wA (wA s 15 g) 17 g17) (by omega) (by omega) (fun j hj => by omega)
  have b1' : f_X11_road_216 F p F 0 (wA (wA s 15 g) 17 g17) = _ := b1
  have rk : ROK g := PK_ROK (PK_c yg pk) (by rw [yg 10 (by omega)]; exact h10) (by rw [yg 8 (by omega)]; omega)
  have rr : RR sSp g := RP_RR (RP_c yg pk rp) (by rw [yg 8 (by omega)]; exact h8)
  obtain ⟨t0, t1, t2, t3, t4, t5, t8, t9⟩ := ROKb rk
  have wy := (PK_c yg pk).wy.1 0 (by rw [yg 8 (by omega)]; exact h8)
  obtain ⟨w, hw⟩ := toN wy.1
  have w5 : (w : Int) < rd g 5 := by rw [← hw]; exact wy.2
  have w9 : w < 9 := by omega
  have gw : g 200 = Int32.ofInt (w : Int) := by
    rw [← hw]
    exact n_out (g 200)
  obtain ⟨y, hy⟩ := toN (show 0 ≤ (g 1).toInt from t1.1)
  have y0 : (y : Int) ≤ rd g 0 := by rw [← hy]; exact t1.2
  have gy : g 1 = Int32.ofInt (y : Int) := by
    rw [← hy]
    exact n_out (g 1)
  obtain ⟨s2, l1, l2, l3, l4⟩ := com0_e (F := F) (s := sA (sI (sI (sI (wA (wA (wA s 15 g) 17 g17) 18 g18) 14 1) 21 0) 22 0) 18 1 (g 1)) (r := g) rfl rk w9 (z := 0) ⟨by omega, by omega⟩ (by
    show upd g18 1 (g 1) 6 = _
    rw [up_n _ _ _ _ (by decide), b2 6 (by omega)]
    rfl)
  have l2' : s2.2.2.1 18 = upd (upd (upd (upd (upd g18 1 (g 1)) 0 (Int32.ofInt (w : Int))) 4 (Int32.ofInt (dpP g w 0))) 5 (Int32.ofInt 0)) 6 (Int32.ofInt (dpS g w 0)) := l2
  have s15 : s2.2.2.1 15 = g := l4 15 (by decide)
  have E : f_X11_road_235 F p (wA (wA (wA s 15 g) 17 g17) 18 g18) = bd (f_X11_comes F (g 200) (sA (sI (sI (sI (wA (wA (wA s 15 g) 17 g17) 18 g18) 14 1) 21 0) 22 0) 18 1 (g 1))) (fun o52 => gd (vpb (8 : Int32) 300) <| lz (o52.2.2.1 15 (8 : Int32).toNatClampNeg) fun v54 => some (v54, o52)) := by
    unfold f_X11_road_235
    rw [lz_t, lz_t, lz_t, gd_t (by decide), lz_t, gd_t (by decide), lz_t, gd_t (by decide), lz_t]
    rfl
  obtain ⟨o3, f1, f2, -⟩ := fillI (F := F) 7 (by omega) hF 0 ((sI (sI sJo 1 0) 2 0).2.2.1 0)
  obtain ⟨o1, f3, f4, -⟩ := fillI (F := F) 9 (by omega) hF 0 (sPl.2.2.1 0)
  have e0 : sSp.2.2.1 15 (0 : Int32).toNatClampNeg = Int32.ofInt (w : Int) := by
    rw [← gw]
    exact (RP_c yg pk rp).way 0 (by rw [yg 8 (by omega)]; exact h8)
  have e1 : sSp.1 1 = Int32.ofInt (y : Int) := by
    rw [← gy]
    exact rr.1 1 (by omega)
  obtain ⟨sw, k1⟩ := seeP_e (F := F) (sDw := sJw) (sJo := sA (sA (wA (sI (sI sJo 1 0) 2 0) 0 o3) 0 0 (Int32.ofInt (w : Int))) 0 1 (Int32.ofInt (y : Int))) rr rk w9 (z := 0) ⟨by omega, by omega⟩ (by
    show upd (upd o3 0 (Int32.ofInt (w : Int))) 1 (Int32.ofInt (y : Int)) 0 = _
    rw [up_n _ _ _ _ (by decide), up_s]) (by
    show upd (upd o3 0 (Int32.ofInt (w : Int))) 1 (Int32.ofInt (y : Int)) 6 = _
    rw [up_n _ _ _ _ (by decide), up_n _ _ _ _ (by decide), f2 6 (by omega)]
    rfl)
  have db := dp_b rk w9 (z := 0) ⟨by omega, by omega⟩
  have E2 : f_X3_begin F sSp sJw sJo = bd (f_X3_seePump F sSp sJw (sA (sA (wA (sI (sI sJo 1 0) 2 0) 0 o3) 0 0 (Int32.ofInt (w : Int))) 0 1 (Int32.ofInt (y : Int)))) fun o10 => some (o10.1, o10.2) := by
    unfold f_X3_begin f_X9_start
    rw [lz_t, lz_t, f1, bd_some, lz_t, gd_t (by decide), lz_t, bd_some, gd_t (by decide), lz_t, gd_t (by decide), lz_t, e0, e1]
    rfl
  obtain ⟨L, hL1, hL2⟩ := hL
  refine ⟨s2, wA sPl 0 o1, _, sw, ?_, ?_, (by rw [E2, k1, bd_some]), ?_, ?_, ?_, ?_, ?_, ?_⟩
  · unfold f_X11_road_164
    rw [if_pos h13, y1', bd_some, lz_t, a1']
    unfold f_X11_road_214
    rw [b1', E, gw, l1, bd_some, gd_t (by decide), lz_t, s15, show (8 : Int32).toNatClampNeg = 8 from rfl, rr.1 8 (by omega)]
  · unfold f_X6_forget
    rw [f3, bd_some, lz_t]
  · rw [s15]; exact rr
  · rw [s15]; exact rk
  · exact l3 14 (by decide)
  · intro i hi
    rw [wA_e, f4 i hi, l4 17 (by decide)]
    have e17 : (sA (sI (sI (sI (wA (wA (wA s 15 g) 17 g17) 18 g18) 14 1) 21 0) 22 0) 18 1 (g 1)).2.2.1 17 = g17 := rfl
    rw [e17, a2 i hi]
    exact ⟨rfl, by decide, by decide⟩
  · rw [s15]
    refine ⟨fun _ => ?_, fun q => absurd q (by decide), ⟨0, L, by omega, hL1, ?_, ?_, ?_, fun j hj => by omega⟩, ⟨0, by omega, ?_, ?_, fun j hj => by omega⟩⟩
    · rw [l2']
      refine rowR_i (p := w) (y := y) (q := dpP g w 0) (z := dpS g w 0) w5 (by omega) y0 (by omega) db.2.1 db.2.2 db.1.1 db.1.2 ?_ ?_ ?_ ?_ ?_ ?_ ?_ ?_ ?_ ?_ ?_ ?_
      all_goals simp (disch := omega) only [sI_a, sI_b, sL_a, sL_b, sL_c, wA_a, wA_b, wA_c, wA_d, wB_a, wB_b, wB_c, wB_d, sA_w, sB_w, uN_s, uN_n, up_s, up_n, ul_s, ul_n, p_fst, p_snd]
      · exact gy
      · rw [f2 2 (by omega), b2 2 (by omega)]
      · rw [f2 3 (by omega), b2 3 (by omega)]
      · exact Or.inl rfl
    · rfl
    · rw [l3 21 (by decide)]; rfl
    · exact hL2
    · rfl
    · rw [l3 22 (by decide)]; rfl
  · intro k q1 q2 q3 q4
    rw [l3 k q4]
    show (sI (sI (sI (wA (wA (wA s 15 g) 17 g17) 18 g18) 14 1) 21 0) 22 0).1 k = _
    rw [sI_n _ _ _ _ q3, sI_n _ _ _ _ q2, sI_n _ _ _ _ q1]
    rfl
theorem P_road {F : Nat} (hF : 1001 ≤ F) {sMn sRd sPl sJo sJk sJi sJw sSp sMo : MS} {f : Nat → Int32} (hT : TAPE sMn f sMo) (J : JU (sMo.2.2.1 15) sJo sJk sMo) (p : Int32) :
    (∃ v sMn' sRd' sPl' sJo' sJw' sSp' sMo', f_X10_road F 800 f p sMn sRd sPl sJo sJw sSp = some (v, 0, sMn', sRd', sPl', sJo', sJw', sSp') ∧ f_X11_road F p sMo = some (v, sMo') ∧ RR sSp' (sMo'.2.2.1 15) ∧ HR (sMo'.2.2.1 15) (sMo'.1 14) ∧ PP sPl' sMo' ∧ JR (sMo'.2.2.1 15) (sMo'.1 14) sJo' sJk sJi sMo' ∧ TAPE sMn' f sMo' ∧ sMn'.1 11 = 0 ∧ sMo'.1 11 = 0 ∧ sMn'.1 12 = sMo'.1 9 ∧ sMo'.1 0 = 0) ∨
    (∃ sMn' sRd' sSp' sMo', f_X10_road F 800 f p sMn sRd sPl sJo sJw sSp = some (-1, 1, sMn', sRd', sPl, sJo, sJw, sSp') ∧ f_X11_road F p sMo = some (-1, sMo') ∧ TAPE sMn' f sMo' ∧ sMn'.1 11 = 4 ∧ sMo'.1 11 = 4 ∧ sMn'.1 12 = sMo'.1 9 ∧ sMn'.1 13 = sMo'.1 10 ∧ sMo'.1 0 = 0 ∧ (∀ k, 14 ≤ k → sMo'.1 k = sMo.1 k) ∧ (∀ a, a ≠ 12 → a ≠ 16 → sMo'.2.2.1 a = sMo.2.2.1 a)) ∨
    (f_X10_road F 800 f p sMn sRd sPl sJo sJw sSp = some (-1, 2, sI sMn 11 2, sRd, sPl, sJo, sJw, sSp) ∧ f_X11_road F p sMo = some (-1, sI (sI (sI sMo 0 0) 11 0) 11 2)) := by
  obtain ⟨t, t1, t2, t3, t4⟩ := hT
  have h0 : (0 : Int32).toInt = 0 := rfl
  unfold f_X10_road f_X10_road_12 f_X11_road f_X11_in
  rw [X10_refuse, bd_some, X11_good, bd_some]
  have e2 : (sI (sI sMo 0 0) 11 0).1 2 = Int32.ofInt (t : Int) := t3
  by_cases c1 : p < 0
  · refine Or.inr (Or.inr ⟨?_, ?_⟩)
    · rw [if_pos c1]
    · rw [if_pos c1, bd_some, if_pos rfl, X11_no, bd_some]
  · by_cases c2 : p ≤ sMn.1 1
    · have c1' := c1
      have c2' := c2
      rw [i_lt, h0] at c1'
      rw [t2, i_le, n_toI _ (by omega) (by omega)] at c2'
      obtain ⟨e, he⟩ := toN (show 0 ≤ p.toInt by omega)
      have ep : p = Int32.ofInt (e : Int) := by
        rw [← he]
        exact n_out p
      have c3 : ¬ Int32.ofInt (t : Int) < p := by
        rw [i_lt, n_toI _ (by omega) (by omega)]
        omega
      rw [if_neg c1, if_pos c2, if_neg c1, e2, if_neg c3, bd_some, if_neg (by decide), lz_t, lz_t, lz_t, lz_t]
      subst ep
      rcases road_st (F := F) hF (sRd := sRd) (sSp := sSp) (f := f) (e := e) (sMo := sI (sI (sI (sI (sI sMo 0 0) 11 0) 2 0) 9 0) 13 0) (by omega) (fun k hk => t4 k (by omega)) rfl rfl with ⟨R, s, M, r1, r2, r3, r4, r5, r6, r7, r8, r9, r10⟩ | ⟨R, s, M, r1, r2, r3, r4⟩
      · obtain ⟨u, L, hu, hL, e1, e2, e3, e4⟩ := J
        obtain ⟨s', sPl', sJo', sJw', x1, x2, x3, x4, x5, x6, x7, x8, x9⟩ := road_end (F := F) hF (p := Int32.ofInt (e : Int)) (s := M) (sSp := s) (sJo := sJo) (sJk := sJk) (sJi := sJi) (sJw := sJw) (sPl := sPl) r3 r6 r7 r8 r9 ⟨L, hL, e3⟩
        refine Or.inl ⟨s.1 8, sI (sI (sI (sI sMn 1 0) 12 (R.1 0)) 13 (R.1 1)) 11 0, R, sPl', sJo', sJw', s, s', ?_, ?_, x4, Or.inl ⟨x6, x5⟩, x7, by rw [x6]; exact x8, ⟨0, by omega, rfl, ?_, fun k hk => by omega⟩, rfl, ?_, ?_, ?_⟩
        · rw [r1, bd_some, lz_t, lz_t, if_neg (show ¬ ((1 : Int32)) = 0 by decide), x2, bd_some, x3, bd_some, X10_accept, bd_some]
        · rw [r2, x1]
        · rw [x9 2 (by decide) (by decide) (by decide) (by decide), r10.1 2 (by omega)]
          rfl
        · rw [x9 11 (by decide) (by decide) (by decide) (by decide), r10.1 11 (by omega)]
          rfl
        · rw [x9 9 (by decide) (by decide) (by decide) (by decide), r4]
          exact r5
        · rw [x9 0 (by decide) (by decide) (by decide) (by decide), r10.1 0 (by omega)]
          rfl
      · refine Or.inr (Or.inl ⟨sI (sI (sI (sI sMn 1 0) 12 (R.1 0)) 13 (R.1 1)) 11 4, R, s, sI M 11 4, ?_, ?_, ⟨0, by omega, rfl, ?_, fun k hk => by omega⟩, rfl, sI_s _ _ _, r3.2.1, r3.2.2, ?_, ?_, ?_⟩)
        · rw [r1, bd_some, lz_t, lz_t, if_pos rfl, X10_refuse, bd_some]
        · rw [r2]
          unfold f_X11_road_164
          rw [if_neg (show ¬ M.1 13 = 0 by rw [r3.1]; decide), X11_no, bd_some]
        · rw [sI_n _ _ _ _ (by decide), r4.1 2 (by omega)]
          rfl
        · rw [sI_n _ _ _ _ (by decide), r4.1 0 (by omega)]
          rfl
        · intro k hk
          rw [sI_n _ _ _ _ (by omega), r4.1 k (by omega), sI_n _ _ _ _ (by omega), sI_n _ _ _ _ (by omega), sI_n _ _ _ _ (by omega), sI_n _ _ _ _ (by omega), sI_n _ _ _ _ (by omega), sI_n _ _ _ _ (by omega)]
        · intro a h1 h2
          exact r4.2 a h1 h2
    · refine Or.inr (Or.inr ⟨?_, ?_⟩)
      · rw [if_neg c1, if_neg c2]
      · have c3 : Int32.ofInt (t : Int) < p := by
          rw [t2, i_le, n_toI _ (by omega) (by omega)] at c2
          rw [i_lt, n_toI _ (by omega) (by omega)]
          omega
        rw [if_neg c1, e2, if_pos c3, bd_some, if_pos rfl, X11_no, bd_some]
