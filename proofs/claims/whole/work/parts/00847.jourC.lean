/-! calls of the journey: drive, waits, seed, undo, image, back -/
theorem seeP_e {F : Nat} {sRo sDw sJo : MS} {r : Nat → Int32} (hR : RR sRo r) (h : ROK r) {p : Nat} (hp : p < 9) {z : Int} (hz : 0 ≤ z ∧ z < 65537) (h0 : sJo.2.2.1 0 0 = Int32.ofInt (p : Int)) (h6 : sJo.2.2.1 0 6 = Int32.ofInt z) :
    ∃ sDw', f_X3_seePump F sRo sDw sJo = some (sDw', sA (sA (sA sJo 0 4 (Int32.ofInt (if dpP r p z = 0 then -2 else dpP r p z))) 0 6 (Int32.ofInt (dpS r p z))) 0 5 (Int32.ofInt 0)) := by
  obtain ⟨s', e1, e2⟩ := seen_e (F := F) (sDw := sI sDw 0 (Int32.ofInt z)) hR h hp hz (sI_s _ _ _)
  refine ⟨s', ?_⟩
  unfold f_X3_seePump
  simp (disch := omega) only [z_0, z_1, z_2, z_3, z_4, z_5, z_6, z_7, z_8, z_9, z_10, z_11, z_12, z_14, z_18, z_20, z_22, z_24, z_32, z_38, z_40, z_41, z_44, z_48, z_49, z_57, z_59, z_60, z_63, z_65, z_74, z_75, z_81, z_97, z_99, z_104, z_115, z_119, z_122, z_200, z_209, z_210, z_219, z_228, z_255, z_300, z_369, z_999, z_65537, z_268435456, z_1000000000, n_nat, n_add, n_sub, n_mul, n_neg, n_lt, n_le, n_eq, n_ix, n_gd, n_nz, lz_t, bd_some, tn, Int.reduceToNat, tn_1, if_pos, if_neg, if_true, if_false, h0, h6, e1, e2, p_fst, p_snd]
theorem com0_e {F : Nat} {s : MS} {r : Nat → Int32} (hs : s.2.2.1 15 = r) (h : ROK r) {p : Nat} (hp : p < 9) {z : Int} (hz : 0 ≤ z ∧ z < 65537) (h6 : s.2.2.1 18 6 = Int32.ofInt z) :
    ∃ s', f_X11_comes F (Int32.ofInt (p : Int)) s = some s' ∧ s'.2.2.1 18 = upd (upd (upd (upd (s.2.2.1 18) 0 (Int32.ofInt (p : Int))) 4 (Int32.ofInt (dpP r p z))) 5 (Int32.ofInt 0)) 6 (Int32.ofInt (dpS r p z)) ∧ (∀ k, k ≠ 40 → s'.1 k = s.1 k) ∧ (∀ a, a ≠ 18 → s'.2.2.1 a = s.2.2.1 a) := by
  obtain ⟨s1, e1, e2, e3⟩ := draw_e (F := F) (s := sA (sI s 40 (Int32.ofInt z)) 18 0 (Int32.ofInt (p : Int))) (r := r) (by simp (disch := omega) only [sI_a, sI_b, sL_a, sL_b, sL_c, wA_a, wA_b, wA_c, wA_d, wB_a, wB_b, wB_c, wB_d, sA_w, sB_w, uN_s, uN_n, up_s, up_n, ul_s, ul_n, p_fst, p_snd]; exact hs) h hp hz (by simp (disch := omega) only [sI_a, sI_b, sL_a, sL_b, sL_c, wA_a, wA_b, wA_c, wA_d, wB_a, wB_b, wB_c, wB_d, sA_w, sB_w, uN_s, uN_n, up_s, up_n, ul_s, ul_n, p_fst, p_snd])
  have e18 : s1.2.2.1 18 = upd (s.2.2.1 18) 0 (Int32.ofInt (p : Int)) := by
    rw [e3.1]
    simp (disch := omega) only [sI_a, sI_b, sL_a, sL_b, sL_c, wA_a, wA_b, wA_c, wA_d, wB_a, wB_b, wB_c, wB_d, sA_w, sB_w, uN_s, uN_n, up_s, up_n, ul_s, ul_n, p_fst, p_snd]
  refine ⟨sA (sA (sA s1 18 4 (Int32.ofInt (dpP r p z))) 18 5 (Int32.ofInt 0)) 18 6 (Int32.ofInt (dpS r p z)), ?_, ?_, ?_, ?_⟩
  · unfold f_X11_comes
    have e1' : f_X11_drawPrice F (Int32.ofInt (p : Int)) (sA (sI s 40 (Int32.ofInt z)) 18 0 (Int32.ofInt (p : Int))) = _ := e1
    have w40 : (sA (sA s1 18 4 (Int32.ofInt (dpP r p z))) 18 5 (Int32.ofInt 0)).1 40 = Int32.ofInt (dpS r p z) := e2
    simp (disch := omega) only [z_0, z_1, z_2, z_3, z_4, z_5, z_6, z_7, z_8, z_9, z_10, z_11, z_12, z_14, z_18, z_20, z_22, z_24, z_32, z_38, z_40, z_41, z_44, z_48, z_49, z_57, z_59, z_60, z_63, z_65, z_74, z_75, z_81, z_97, z_99, z_104, z_115, z_119, z_122, z_200, z_209, z_210, z_219, z_228, z_255, z_300, z_369, z_999, z_65537, z_268435456, z_1000000000, n_nat, n_add, n_sub, n_mul, n_neg, n_lt, n_le, n_eq, n_ix, n_gd, n_nz, lz_t, bd_some, tn, Int.reduceToNat, tn_1, if_pos, if_neg, if_true, if_false, h6, e1', p_fst, p_snd, w40]
  · simp (disch := omega) only [sI_a, sI_b, sL_a, sL_b, sL_c, wA_a, wA_b, wA_c, wA_d, wB_a, wB_b, wB_c, wB_d, sA_w, sB_w, uN_s, uN_n, up_s, up_n, ul_s, ul_n, p_fst, p_snd, e18]
  · intro k hk
    show s1.1 k = _
    rw [e3.2 k hk]
    show uN s.1 40 _ k = _
    exact uN_n _ _ _ _ hk
  · intro a ha
    simp (disch := omega) only [sI_a, sI_b, sL_a, sL_b, sL_c, wA_a, wA_b, wA_c, wA_d, wB_a, wB_b, wB_c, wB_d, sA_w, sB_w, uN_s, uN_n, up_s, up_n, ul_s, ul_n, p_fst, p_snd, e3.1]
theorem KJ_c {s s' : MS} (h1 : ∀ k, k ≠ 40 → s'.1 k = s.1 k) (h2 : ∀ a, a ≠ 18 → s'.2.2.1 a = s.2.2.1 a) : KJ s s' := ⟨fun k hk => h1 k (by omega), fun a ha => h2 a (by omega)⟩
theorem B_road {F : Nat} {s : MS} {r : Nat → Int32} (hs : s.2.2.1 15 = r) {i j : Nat} (hi : i < 9) (hj : j < 9) : f_X11_roadOf F s (Int32.ofInt (i : Int)) (Int32.ofInt (j : Int)) = some (Int32.ofInt (rd r (38 + (9 * i + j)))) := by
  subst hs
  have := X11_roadOf (F := F) (s := s) hi hj
  rw [rd_e (s.2.2.1 15)] at this
  exact this
theorem B9_pints {F : Nat} {s : MS} {r : Nat → Int32} (hR : RR s r) {i j : Nat} (hi : i < 9) (hj : j < 9) : f_X9_pintsOf F s (Int32.ofInt (i : Int)) (Int32.ofInt (j : Int)) = some (Int32.ofInt (rd r (38 + (9 * i + j)))) := by
  have := X9_pintsOf (F := F) hR hi hj
  rw [rd_e r] at this
  exact this
theorem B9_min {F : Nat} {s : MS} {r : Nat → Int32} (hR : RR s r) {i j : Nat} (hi : i < 9) (hj : j < 9) : f_X9_minutesOf F s (Int32.ofInt (i : Int)) (Int32.ofInt (j : Int)) = some (r (119 + (9 * i + j))) := X9_minutesOf hR hi hj
theorem B9_road {F : Nat} {s : MS} {r : Nat → Int32} (hR : RR s r) {i j : Nat} (hi : i < 9) (hj : j < 9) : f_X9_isRoad F s (Int32.ofInt (i : Int)) (Int32.ofInt (j : Int)) = some (bi (decide (0 < rd r (38 + (9 * i + j))))) := X9_isRoad hR hi hj
theorem road_b {r : Nat → Int32} (h : ROK r) {i j : Nat} (hi : i < 9) (hj : j < 9) : 0 ≤ rd r (38 + (9 * i + j)) ∧ rd r (38 + (9 * i + j)) ≤ 40 := by
  have := h.2.2.2.2.2.2.2.2.2.2.1 i j hi hj
  exact ⟨this.1, this.2.1⟩
theorem isP_x {r : Nat → Int32} {p : Int32} (h5 : rd r 5 ≤ 9) : (isP r p = true → ∃ i : Nat, i < 9 ∧ (i : Int) < rd r 5 ∧ p = Int32.ofInt (i : Int)) := by
  intro h
  unfold isP at h
  rw [Bool.and_eq_true, decide_eq_true_eq, decide_eq_true_eq] at h
  have e : (r 5).toInt = rd r 5 := rfl
  refine ⟨p.toInt.toNat, by omega, by omega, ?_⟩
  rw [show ((p.toInt.toNat : Nat) : Int) = p.toInt by omega]
  exact n_out p
theorem P_drive {F : Nat} (hF : 100 ≤ F) {sMn sRo sJo sJk sJi sJw sMo : MS} (hR : RR sRo (sMo.2.2.1 15)) (H : HR (sMo.2.2.1 15) (sMo.1 14)) (J : JR (sMo.2.2.1 15) (sMo.1 14) sJo sJk sJi sMo) (p : Int32) :
    ∃ v sMn' sJo' sJk' sJw' sMo', f_X10_drive F sRo p sMn sJo sJk sJw = some (v, sMn', sJo', sJk', sJw') ∧ f_X11_drive F p sMo = some (v, sMo') ∧ TJ sMn sMo sMn' sMo' ∧ JR (sMo.2.2.1 15) (sMo.1 14) sJo' sJk' sJi sMo' := by
  have JN : ∀ t, JR (sMo.2.2.1 15) (sMo.1 14) sJo sJk sJi (sI (gQ sMo) 11 t) := fun t => JR_n J rfl rfl rfl rfl rfl
  unfold f_X10_drive f_X11_drive f_X11_drive_22
  rw [X11_good', bd_some, X11_isPlace (s := gQ sMo) H, bd_some, gd_t (by decide), lz_t, X10_areTwo hR, bd_some, gQ_15]
  cases c : isP (sMo.2.2.1 15) p with
  | false =>
    refine ⟨-1, sI sMn 11 1, sJo, sJk, sJw, sI (gQ sMo) 11 1, ?_, rfl, TJ_n _ _ 1, JN 1⟩
    rw [Bool.false_and, Bool.and_false]
    rfl
  | true =>
    rcases H with ⟨h1, h2⟩ | ⟨h1, h2⟩
    · obtain ⟨q0, -, q2', q3', -⟩ := RRb hR
      obtain ⟨t0, t1, t2, t3, t4, t5, t8, t9⟩ := ROKb h2
      obtain ⟨a, y, q, z, pa, pb, yb, q1, q2, z1, z2, b0, b1, b4, b6, a0, a1, a4, a6, a2, a3, a5, b5⟩ := rowR_x h2 (J.1 h1)
      obtain ⟨w, w9, w5, rfl⟩ := isP_x t5.2 c
      have a0' : sJo.2.2.1 0 (0 : Int32).toNatClampNeg = Int32.ofInt (a : Int) := a0
      have pa' : isP (sMo.2.2.1 15) (Int32.ofInt (a : Int)) = true := by
        unfold isP
        rw [oi ⟨by omega, by omega⟩, Bool.and_eq_true, decide_eq_true_eq, decide_eq_true_eq]
        exact ⟨by omega, pb⟩
      have g18 : (gQ sMo).2.2.1 18 = sMo.2.2.1 18 := rfl
      have rb := road_b h2 pa w9
      have Br := B_road (F := F) (gQ_15 sMo) pa w9
      rw [a0', pa', Bool.true_and, Bool.true_and]
      by_cases ce : a = w
      · refine ⟨-1, sI sMn 11 1, sJo, sJk, sJw, sI (gQ sMo) 11 1, ?_, ?_, TJ_n _ _ 1, JN 1⟩
        · rw [ce]
          simp [bi, X10_refuse, bd_some]
        · simp (disch := omega) only [z_0, z_1, z_2, z_3, z_4, z_5, z_6, z_7, z_8, z_9, z_10, z_11, z_12, z_14, z_18, z_20, z_22, z_24, z_32, z_38, z_40, z_41, z_44, z_48, z_49, z_57, z_59, z_60, z_63, z_65, z_74, z_75, z_81, z_97, z_99, z_104, z_115, z_119, z_122, z_200, z_209, z_210, z_219, z_228, z_255, z_300, z_369, z_999, z_65537, z_268435456, z_1000000000, n_nat, n_add, n_sub, n_mul, n_neg, n_lt, n_le, n_eq, n_ix, n_gd, n_nz, lz_t, bd_some, tn, Int.reduceToNat, tn_1, if_pos, if_neg, if_true, if_false, g18, b0, bi_z, X11_no, Bool.true_eq_false]
      · have ne : ¬ Int32.ofInt (a : Int) = Int32.ofInt (w : Int) := by
          rw [n_eq _ _ (by omega) (by omega) (by omega) (by omega)]; omega
        rw [decide_eq_false ne]
        by_cases c0 : rd (sMo.2.2.1 15) (38 + (9 * a + w)) = 0
        · refine ⟨-1, sI sMn 11 6, sJo, sJk, sJw, sI (gQ sMo) 11 6, ?_, ?_, TJ_n _ _ 6, JN 6⟩
          · simp (disch := omega) only [z_0, z_1, z_2, z_3, z_4, z_5, z_6, z_7, z_8, z_9, z_10, z_11, z_12, z_14, z_18, z_20, z_22, z_24, z_32, z_38, z_40, z_41, z_44, z_48, z_49, z_57, z_59, z_60, z_63, z_65, z_74, z_75, z_81, z_97, z_99, z_104, z_115, z_119, z_122, z_200, z_209, z_210, z_219, z_228, z_255, z_300, z_369, z_999, z_65537, z_268435456, z_1000000000, n_nat, n_add, n_sub, n_mul, n_neg, n_lt, n_le, n_eq, n_ix, n_gd, n_nz, lz_t, bd_some, tn, Int.reduceToNat, tn_1, if_pos, if_neg, if_true, if_false, B9_road hR pa w9, bi_z, decide_eq_false_iff_not, X10_refuse, Bool.not_false, Bool.true_eq_false]
          · simp (disch := omega) only [z_0, z_1, z_2, z_3, z_4, z_5, z_6, z_7, z_8, z_9, z_10, z_11, z_12, z_14, z_18, z_20, z_22, z_24, z_32, z_38, z_40, z_41, z_44, z_48, z_49, z_57, z_59, z_60, z_63, z_65, z_74, z_75, z_81, z_97, z_99, z_104, z_115, z_119, z_122, z_200, z_209, z_210, z_219, z_228, z_255, z_300, z_369, z_999, z_65537, z_268435456, z_1000000000, n_nat, n_add, n_sub, n_mul, n_neg, n_lt, n_le, n_eq, n_ix, n_gd, n_nz, lz_t, bd_some, tn, Int.reduceToNat, tn_1, if_pos, if_neg, if_true, if_false, g18, b0, bi_z, Br, X11_no, Bool.true_eq_false]
        · by_cases c1 : rd (sMo.2.2.1 15) (38 + (9 * a + w)) ≤ y
          · obtain ⟨x1, x2, sJo', sJk', s', e0, e1, e2, e3, e4, e5, e6⟩ := JU_k (F := F) hF (s := gQ sMo) (JU_c J.2.2.1 rfl rfl rfl rfl) (J.1 h1)
            have j0 : sJo'.2.2.1 0 = sJo.2.2.1 0 := by rw [e0]; rfl
            have j2 : sJo'.1 2 = sJo.1 2 := by rw [e0, sI_n _ _ _ _ (by decide), sI_n _ _ _ _ (by decide)]
            have s18 : s'.2.2.1 18 = sMo.2.2.1 18 := e5 18 (by decide)
            have s15 : s'.2.2.1 15 = sMo.2.2.1 15 := e5 15 (by decide)
            have s20 : s'.2.2.1 20 = sMo.2.2.1 20 := e5 20 (by decide)
            have s22 : s'.1 22 = sMo.1 22 := e4 22 (by decide)
            have ey : (y : Int) - rd (sMo.2.2.1 15) (38 + (9 * a + w)) = ((y - (rd (sMo.2.2.1 15) (38 + (9 * a + w))).toNat : Nat) : Int) := by omega
            have i119 : (119 + 9 * (a : Int) + (w : Int)).toNat = 119 + (9 * a + w) := by omega
            obtain ⟨sw, k1⟩ := seeP_e (F := F) (sDw := sJw) (sJo := sA (sA (sA sJo' 0 1 (Int32.ofInt ((y - (rd (sMo.2.2.1 15) (38 + (9 * a + w))).toNat : Nat) : Int))) 0 3 (sMo.2.2.1 18 3 + sMo.2.2.1 15 (119 + (9 * a + w)))) 0 0 (Int32.ofInt (w : Int))) hR h2 w9 ⟨z1, z2⟩ (by simp (disch := omega) only [sI_a, sI_b, sL_a, sL_b, sL_c, wA_a, wA_b, wA_c, wA_d, wB_a, wB_b, wB_c, wB_d, sA_w, sB_w, uN_s, uN_n, up_s, up_n, ul_s, ul_n, p_fst, p_snd]) (by simp (disch := omega) only [sI_a, sI_b, sL_a, sL_b, sL_c, wA_a, wA_b, wA_c, wA_d, wB_a, wB_b, wB_c, wB_d, sA_w, sB_w, uN_s, uN_n, up_s, up_n, ul_s, ul_n, p_fst, p_snd, j0]; exact a6)
            obtain ⟨s2, l1, l2, l3, l4⟩ := com0_e (F := F) (s := sA (sA s' 18 1 (Int32.ofInt ((y - (rd (sMo.2.2.1 15) (38 + (9 * a + w))).toNat : Nat) : Int))) 18 3 (sMo.2.2.1 18 3 + sMo.2.2.1 15 (119 + (9 * a + w)))) (by simp (disch := omega) only [sI_a, sI_b, sL_a, sL_b, sL_c, wA_a, wA_b, wA_c, wA_d, wB_a, wB_b, wB_c, wB_d, sA_w, sB_w, uN_s, uN_n, up_s, up_n, ul_s, ul_n, p_fst, p_snd]; exact s15) h2 w9 ⟨z1, z2⟩ (by simp (disch := omega) only [sI_a, sI_b, sL_a, sL_b, sL_c, wA_a, wA_b, wA_c, wA_d, wB_a, wB_b, wB_c, wB_d, sA_w, sB_w, uN_s, uN_n, up_s, up_n, ul_s, ul_n, p_fst, p_snd, s18]; exact b6)
            have db := dp_b h2 w9 ⟨z1, z2⟩
            have l2' : s2.2.2.1 18 1 = Int32.ofInt ((y - (rd (sMo.2.2.1 15) (38 + (9 * a + w))).toNat : Nat) : Int) := by
              rw [l2]
              simp (disch := omega) only [sI_a, sI_b, sL_a, sL_b, sL_c, wA_a, wA_b, wA_c, wA_d, wB_a, wB_b, wB_c, wB_d, sA_w, sB_w, uN_s, uN_n, up_s, up_n, ul_s, ul_n, p_fst, p_snd]
            refine ⟨Int32.ofInt ((y - (rd (sMo.2.2.1 15) (38 + (9 * a + w))).toNat : Nat) : Int), sI sMn 11 0, sA (sA (sA (sA (sA (sA sJo' 0 1 (Int32.ofInt ((y - (rd (sMo.2.2.1 15) (38 + (9 * a + w))).toNat : Nat) : Int))) 0 3 (sMo.2.2.1 18 3 + sMo.2.2.1 15 (119 + (9 * a + w)))) 0 0 (Int32.ofInt (w : Int))) 0 4 (Int32.ofInt (if dpP (sMo.2.2.1 15) w z = 0 then -2 else dpP (sMo.2.2.1 15) w z))) 0 6 (Int32.ofInt (dpS (sMo.2.2.1 15) w z))) 0 5 (Int32.ofInt 0), sJk', sw, s2, ?_, ?_, TJ_k (KJ_t e3 (KJ_t (KJ_t (KJ_a _ _ _ (by decide)) (KJ_a _ _ _ (by decide))) (KJ_c l3 l4))), ?_⟩
            · unfold f_X3_canGo f_X3_goTo
              have j00 : sJo'.2.2.1 0 0 = Int32.ofInt (a : Int) := by rw [j0]; exact a0
              have j01 : sJo'.2.2.1 0 1 = Int32.ofInt (y : Int) := by rw [j0]; exact a1
              have w0 : (sA sJo' 0 1 (Int32.ofInt ((y - (rd (sMo.2.2.1 15) (38 + (9 * a + w))).toNat : Nat) : Int))).2.2.1 0 0 = Int32.ofInt (a : Int) := by simp (disch := omega) only [sI_a, sI_b, sL_a, sL_b, sL_c, wA_a, wA_b, wA_c, wA_d, wB_a, wB_b, wB_c, wB_d, sA_w, sB_w, uN_s, uN_n, up_s, up_n, ul_s, ul_n, p_fst, p_snd]; exact j00
              have w3 : (sA sJo' 0 1 (Int32.ofInt ((y - (rd (sMo.2.2.1 15) (38 + (9 * a + w))).toNat : Nat) : Int))).2.2.1 0 3 = sMo.2.2.1 18 3 := by simp (disch := omega) only [sI_a, sI_b, sL_a, sL_b, sL_c, wA_a, wA_b, wA_c, wA_d, wB_a, wB_b, wB_c, wB_d, sA_w, sB_w, uN_s, uN_n, up_s, up_n, ul_s, ul_n, p_fst, p_snd, j0]; exact a3
              have w1 : (sA (sA (sA (sA (sA (sA sJo' 0 1 (Int32.ofInt ((y - (rd (sMo.2.2.1 15) (38 + (9 * a + w))).toNat : Nat) : Int))) 0 3 (sMo.2.2.1 18 3 + sMo.2.2.1 15 (119 + (9 * a + w)))) 0 0 (Int32.ofInt (w : Int))) 0 4 (Int32.ofInt (if dpP (sMo.2.2.1 15) w z = 0 then -2 else dpP (sMo.2.2.1 15) w z))) 0 6 (Int32.ofInt (dpS (sMo.2.2.1 15) w z))) 0 5 (Int32.ofInt 0)).2.2.1 0 1 = Int32.ofInt ((y - (rd (sMo.2.2.1 15) (38 + (9 * a + w))).toNat : Nat) : Int) := by simp (disch := omega) only [sI_a, sI_b, sL_a, sL_b, sL_c, wA_a, wA_b, wA_c, wA_d, wB_a, wB_b, wB_c, wB_d, sA_w, sB_w, uN_s, uN_n, up_s, up_n, ul_s, ul_n, p_fst, p_snd]
              simp (disch := omega) only [z_0, z_1, z_2, z_3, z_4, z_5, z_6, z_7, z_8, z_9, z_10, z_11, z_12, z_14, z_18, z_20, z_22, z_24, z_32, z_38, z_40, z_41, z_44, z_48, z_49, z_57, z_59, z_60, z_63, z_65, z_74, z_75, z_81, z_97, z_99, z_104, z_115, z_119, z_122, z_200, z_209, z_210, z_219, z_228, z_255, z_300, z_369, z_999, z_65537, z_268435456, z_1000000000, n_nat, n_add, n_sub, n_mul, n_neg, n_lt, n_le, n_eq, n_ix, n_gd, n_nz, lz_t, bd_some, tn, Int.reduceToNat, tn_1, if_pos, if_neg, if_true, if_false, B9_road hR pa w9, B9_pints hR pa w9, B9_min hR pa w9, bi_z, decide_eq_false_iff_not, X10_accept, Bool.not_false, Bool.true_eq_false, a0, a1, e1, p_fst, p_snd, j00, j01, ey, w0, w3, k1, w1]
            · have s01 : s'.2.2.1 18 1 = Int32.ofInt (y : Int) := by rw [s18]; exact b1
              have w0 : (sA s' 18 1 (Int32.ofInt ((y - (rd (sMo.2.2.1 15) (38 + (9 * a + w))).toNat : Nat) : Int))).2.2.1 18 0 = Int32.ofInt (a : Int) := by simp (disch := omega) only [sI_a, sI_b, sL_a, sL_b, sL_c, wA_a, wA_b, wA_c, wA_d, wB_a, wB_b, wB_c, wB_d, sA_w, sB_w, uN_s, uN_n, up_s, up_n, ul_s, ul_n, p_fst, p_snd, s18]; exact b0
              have w3 : (sA s' 18 1 (Int32.ofInt ((y - (rd (sMo.2.2.1 15) (38 + (9 * a + w))).toNat : Nat) : Int))).2.2.1 18 3 = sMo.2.2.1 18 3 := by simp (disch := omega) only [sI_a, sI_b, sL_a, sL_b, sL_c, wA_a, wA_b, wA_c, wA_d, wB_a, wB_b, wB_c, wB_d, sA_w, sB_w, uN_s, uN_n, up_s, up_n, ul_s, ul_n, p_fst, p_snd, s18]
              have w15 : (sA s' 18 1 (Int32.ofInt ((y - (rd (sMo.2.2.1 15) (38 + (9 * a + w))).toNat : Nat) : Int))).2.2.1 15 = sMo.2.2.1 15 := by simp (disch := omega) only [sI_a, sI_b, sL_a, sL_b, sL_c, wA_a, wA_b, wA_c, wA_d, wB_a, wB_b, wB_c, wB_d, sA_w, sB_w, uN_s, uN_n, up_s, up_n, ul_s, ul_n, p_fst, p_snd, s15]
              simp (disch := omega) only [z_0, z_1, z_2, z_3, z_4, z_5, z_6, z_7, z_8, z_9, z_10, z_11, z_12, z_14, z_18, z_20, z_22, z_24, z_32, z_38, z_40, z_41, z_44, z_48, z_49, z_57, z_59, z_60, z_63, z_65, z_74, z_75, z_81, z_97, z_99, z_104, z_115, z_119, z_122, z_200, z_209, z_210, z_219, z_228, z_255, z_300, z_369, z_999, z_65537, z_268435456, z_1000000000, n_nat, n_add, n_sub, n_mul, n_neg, n_lt, n_le, n_eq, n_ix, n_gd, n_nz, lz_t, bd_some, tn, Int.reduceToNat, tn_1, if_pos, if_neg, if_true, if_false, g18, b0, b1, bi_z, Br, Bool.true_eq_false, e2, s01, ey, w0, w3, w15, i119, l1, l2']
            · refine ⟨fun _ => ?_, fun q => absurd q (by rw [h1]; decide), e6 _ _ rfl ?_ ?_, JI_k J.2.2.2 ?_ ?_ ?_⟩
              · refine rowR_i (p := w) (y := y - (rd (sMo.2.2.1 15) (38 + (9 * a + w))).toNat) (q := dpP (sMo.2.2.1 15) w z) (z := dpS (sMo.2.2.1 15) w z) w5 (by omega) (by omega) (by omega) db.2.1 db.2.2 db.1.1 db.1.2 ?_ ?_ ?_ ?_ ?_ ?_ ?_ ?_ ?_ ?_ ?_ ?_
                all_goals simp (disch := omega) only [sI_a, sI_b, sL_a, sL_b, sL_c, wA_a, wA_b, wA_c, wA_d, wB_a, wB_b, wB_c, wB_d, sA_w, sB_w, uN_s, uN_n, up_s, up_n, ul_s, ul_n, p_fst, p_snd, l2, j0, s18, b0, b1, b4, b6, a0, a1, a4, a6, a2, a3]
                exact Or.inl rfl
              · rw [l3 21 (by decide)]; rfl
              · rw [l4 19 (by decide)]; simp (disch := omega) only [sI_a, sI_b, sL_a, sL_b, sL_c, wA_a, wA_b, wA_c, wA_d, wB_a, wB_b, wB_c, wB_d, sA_w, sB_w, uN_s, uN_n, up_s, up_n, ul_s, ul_n, p_fst, p_snd]
              · simp (disch := omega) only [sI_a, sI_b, sL_a, sL_b, sL_c, wA_a, wA_b, wA_c, wA_d, wB_a, wB_b, wB_c, wB_d, sA_w, sB_w, uN_s, uN_n, up_s, up_n, ul_s, ul_n, p_fst, p_snd, j2]
              · rw [l3 22 (by decide)]; exact s22
              · rw [l4 20 (by decide)]; simp (disch := omega) only [sI_a, sI_b, sL_a, sL_b, sL_c, wA_a, wA_b, wA_c, wA_d, wB_a, wB_b, wB_c, wB_d, sA_w, sB_w, uN_s, uN_n, up_s, up_n, ul_s, ul_n, p_fst, p_snd, s20]
          · refine ⟨-1, sI sMn 11 5, sJo, sJk, sJw, sI (gQ sMo) 11 5, ?_, ?_, TJ_n _ _ 5, JN 5⟩
            · unfold f_X3_canGo
              simp (disch := omega) only [z_0, z_1, z_2, z_3, z_4, z_5, z_6, z_7, z_8, z_9, z_10, z_11, z_12, z_14, z_18, z_20, z_22, z_24, z_32, z_38, z_40, z_41, z_44, z_48, z_49, z_57, z_59, z_60, z_63, z_65, z_74, z_75, z_81, z_97, z_99, z_104, z_115, z_119, z_122, z_200, z_209, z_210, z_219, z_228, z_255, z_300, z_369, z_999, z_65537, z_268435456, z_1000000000, n_nat, n_add, n_sub, n_mul, n_neg, n_lt, n_le, n_eq, n_ix, n_gd, n_nz, lz_t, bd_some, tn, Int.reduceToNat, tn_1, if_pos, if_neg, if_true, if_false, B9_road hR pa w9, B9_pints hR pa w9, bi_z, decide_eq_false_iff_not, X10_refuse, Bool.not_false, Bool.true_eq_false, a0, a1]
            · simp (disch := omega) only [z_0, z_1, z_2, z_3, z_4, z_5, z_6, z_7, z_8, z_9, z_10, z_11, z_12, z_14, z_18, z_20, z_22, z_24, z_32, z_38, z_40, z_41, z_44, z_48, z_49, z_57, z_59, z_60, z_63, z_65, z_74, z_75, z_81, z_97, z_99, z_104, z_115, z_119, z_122, z_200, z_209, z_210, z_219, z_228, z_255, z_300, z_369, z_999, z_65537, z_268435456, z_1000000000, n_nat, n_add, n_sub, n_mul, n_neg, n_lt, n_le, n_eq, n_ix, n_gd, n_nz, lz_t, bd_some, tn, Int.reduceToNat, tn_1, if_pos, if_neg, if_true, if_false, g18, b0, b1, bi_z, Br, X11_no, Bool.true_eq_false]
    · unfold isP at c
      rw [h2 5 (by omega), Bool.and_eq_true, decide_eq_true_eq, decide_eq_true_eq] at c
      have : (0 : Int32).toInt = 0 := rfl
      omega
