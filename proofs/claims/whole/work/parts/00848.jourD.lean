/-! waits, seed, undo, image, back, size, led, and the small calls -/
theorem P_waits {F : Nat} (hF : 100 ≤ F) {sMn sRo sJo sJk sJi sJw sMo : MS} (hR : RR sRo (sMo.2.2.1 15)) (H : HR (sMo.2.2.1 15) (sMo.1 14)) (J : JR (sMo.2.2.1 15) (sMo.1 14) sJo sJk sJi sMo) :
    ∃ v t sMn' sJo' sJk' sJw' sMo', f_X10_waits F sRo sMn sJo sJk sJw = some (v, t, sMn', sJo', sJk', sJw') ∧ f_X11_waits F sMo = some (v, sMo') ∧ TJ sMn sMo sMn' sMo' ∧ JR (sMo.2.2.1 15) (sMo.1 14) sJo' sJk' sJi sMo' := by
  have JN : ∀ t, JR (sMo.2.2.1 15) (sMo.1 14) sJo sJk sJi (sI (gQ sMo) 11 t) := fun t => JR_n J rfl rfl rfl rfl rfl
  unfold f_X10_waits f_X11_waits
  rw [X9_isTold hR H, bd_some, X11_good', bd_some, gQ_14]
  rcases H with ⟨h1, h2⟩ | ⟨h1, h2⟩
  · obtain ⟨t0, t1, t2, t3, t4, t5, t8, t9⟩ := ROKb h2
    obtain ⟨a, y, q, z, pa, pb, yb, q1, q2, z1, z2, b0, b1, b4, b6, a0, a1, a4, a6, a2, a3, a5, b5⟩ := rowR_x h2 (J.1 h1)
    rw [h1, if_neg (c := (1 : Int32) = 0) (by decide), if_neg (c := (1 : Int32) = 0) (by decide)]
    obtain ⟨x1, x2, sJo', sJk', s', e0, e1, e2, e3, e4, e5, e6⟩ := JU_k (F := F) hF (s := gQ sMo) (JU_c J.2.2.1 rfl rfl rfl rfl) (J.1 h1)
    have j0 : sJo'.2.2.1 0 = sJo.2.2.1 0 := by rw [e0]; rfl
    have j2 : sJo'.1 2 = sJo.1 2 := by rw [e0, sI_n _ _ _ _ (by decide), sI_n _ _ _ _ (by decide)]
    have s18 : s'.2.2.1 18 = sMo.2.2.1 18 := e5 18 (by decide)
    have s15 : s'.2.2.1 15 = sMo.2.2.1 15 := e5 15 (by decide)
    have s20 : s'.2.2.1 20 = sMo.2.2.1 20 := e5 20 (by decide)
    have s22 : s'.1 22 = sMo.1 22 := e4 22 (by decide)
    obtain ⟨sw, k1⟩ := seeP_e (F := F) (sDw := sJw) (sJo := sA sJo' 0 3 (sMo.2.2.1 18 3 + Int32.ofInt 10)) hR h2 pa ⟨z1, z2⟩ (by simp (disch := omega) only [sI_a, sI_b, sL_a, sL_b, sL_c, wA_a, wA_b, wA_c, wA_d, wB_a, wB_b, wB_c, wB_d, sA_w, sB_w, uN_s, uN_n, up_s, up_n, ul_s, ul_n, p_fst, p_snd, j0]; exact a0) (by simp (disch := omega) only [sI_a, sI_b, sL_a, sL_b, sL_c, wA_a, wA_b, wA_c, wA_d, wB_a, wB_b, wB_c, wB_d, sA_w, sB_w, uN_s, uN_n, up_s, up_n, ul_s, ul_n, p_fst, p_snd, j0]; exact a6)
    obtain ⟨s2, l1, l2, l3, l4⟩ := com0_e (F := F) (s := sA s' 18 3 (sMo.2.2.1 18 3 + Int32.ofInt 10)) (by simp (disch := omega) only [sI_a, sI_b, sL_a, sL_b, sL_c, wA_a, wA_b, wA_c, wA_d, wB_a, wB_b, wB_c, wB_d, sA_w, sB_w, uN_s, uN_n, up_s, up_n, ul_s, ul_n, p_fst, p_snd]; exact s15) h2 pa ⟨z1, z2⟩ (by simp (disch := omega) only [sI_a, sI_b, sL_a, sL_b, sL_c, wA_a, wA_b, wA_c, wA_d, wB_a, wB_b, wB_c, wB_d, sA_w, sB_w, uN_s, uN_n, up_s, up_n, ul_s, ul_n, p_fst, p_snd, s18]; exact b6)
    have db := dp_b h2 pa ⟨z1, z2⟩
    have l2' : s2.2.2.1 18 4 = Int32.ofInt (dpP (sMo.2.2.1 15) a z) := by
      rw [l2]
      simp (disch := omega) only [sI_a, sI_b, sL_a, sL_b, sL_c, wA_a, wA_b, wA_c, wA_d, wB_a, wB_b, wB_c, wB_d, sA_w, sB_w, uN_s, uN_n, up_s, up_n, ul_s, ul_n, p_fst, p_snd]
    have j03 : sJo'.2.2.1 0 3 = sMo.2.2.1 18 3 := by rw [j0]; exact a3
    have w4 : (sA (sA (sA (sA sJo' 0 3 (sMo.2.2.1 18 3 + Int32.ofInt 10)) 0 4 (Int32.ofInt (if dpP (sMo.2.2.1 15) a z = 0 then -2 else dpP (sMo.2.2.1 15) a z))) 0 6 (Int32.ofInt (dpS (sMo.2.2.1 15) a z))) 0 5 (Int32.ofInt 0)).2.2.1 0 4 = Int32.ofInt (if dpP (sMo.2.2.1 15) a z = 0 then -2 else dpP (sMo.2.2.1 15) a z) := by simp (disch := omega) only [sI_a, sI_b, sL_a, sL_b, sL_c, wA_a, wA_b, wA_c, wA_d, wB_a, wB_b, wB_c, wB_d, sA_w, sB_w, uN_s, uN_n, up_s, up_n, ul_s, ul_n, p_fst, p_snd]
    have w0 : (sA s' 18 3 (sMo.2.2.1 18 3 + Int32.ofInt 10)).2.2.1 18 0 = Int32.ofInt (a : Int) := by simp (disch := omega) only [sI_a, sI_b, sL_a, sL_b, sL_c, wA_a, wA_b, wA_c, wA_d, wB_a, wB_b, wB_c, wB_d, sA_w, sB_w, uN_s, uN_n, up_s, up_n, ul_s, ul_n, p_fst, p_snd, s18]; exact b0
    have s03 : s'.2.2.1 18 3 = sMo.2.2.1 18 3 := by rw [s18]
    refine ⟨Int32.ofInt (if dpP (sMo.2.2.1 15) a z = 0 then -2 else dpP (sMo.2.2.1 15) a z), 0, sI sMn 11 0, sA (sA (sA (sA sJo' 0 3 (sMo.2.2.1 18 3 + Int32.ofInt 10)) 0 4 (Int32.ofInt (if dpP (sMo.2.2.1 15) a z = 0 then -2 else dpP (sMo.2.2.1 15) a z))) 0 6 (Int32.ofInt (dpS (sMo.2.2.1 15) a z))) 0 5 (Int32.ofInt 0), sJk', sw, s2, ?_, ?_, TJ_k (KJ_t e3 (KJ_t (KJ_a _ _ _ (by decide)) (KJ_c l3 l4))), ?_⟩
    · unfold f_X3_stay
      simp (disch := omega) only [z_0, z_1, z_2, z_3, z_4, z_5, z_6, z_7, z_8, z_9, z_10, z_11, z_12, z_14, z_18, z_20, z_22, z_24, z_32, z_38, z_40, z_41, z_44, z_48, z_49, z_57, z_59, z_60, z_63, z_65, z_74, z_75, z_81, z_97, z_99, z_104, z_115, z_119, z_122, z_200, z_209, z_210, z_219, z_228, z_255, z_300, z_369, z_999, z_65537, z_268435456, z_1000000000, n_gd, n_ix, Int.reduceToNat, lz_t, bd_some, X10_accept, e1, p_fst, p_snd, j03, k1, w4]
    · by_cases c : dpP (sMo.2.2.1 15) a z = 0
      · simp (disch := omega) only [z_0, z_1, z_2, z_3, z_4, z_5, z_6, z_7, z_8, z_9, z_10, z_11, z_12, z_14, z_18, z_20, z_22, z_24, z_32, z_38, z_40, z_41, z_44, z_48, z_49, z_57, z_59, z_60, z_63, z_65, z_74, z_75, z_81, z_97, z_99, z_104, z_115, z_119, z_122, z_200, z_209, z_210, z_219, z_228, z_255, z_300, z_369, z_999, z_65537, z_268435456, z_1000000000, n_nat, n_add, n_sub, n_mul, n_neg, n_lt, n_le, n_eq, n_ix, n_gd, n_nz, lz_t, bd_some, tn, Int.reduceToNat, tn_1, if_pos, if_neg, if_true, if_false, e2, s03, w0, l1, l2']
      · simp (disch := omega) only [z_0, z_1, z_2, z_3, z_4, z_5, z_6, z_7, z_8, z_9, z_10, z_11, z_12, z_14, z_18, z_20, z_22, z_24, z_32, z_38, z_40, z_41, z_44, z_48, z_49, z_57, z_59, z_60, z_63, z_65, z_74, z_75, z_81, z_97, z_99, z_104, z_115, z_119, z_122, z_200, z_209, z_210, z_219, z_228, z_255, z_300, z_369, z_999, z_65537, z_268435456, z_1000000000, n_nat, n_add, n_sub, n_mul, n_neg, n_lt, n_le, n_eq, n_ix, n_gd, n_nz, lz_t, bd_some, tn, Int.reduceToNat, tn_1, if_pos, if_neg, if_true, if_false, e2, s03, w0, l1, l2']
    · refine ⟨fun _ => ?_, fun q => absurd q (by decide), e6 _ _ rfl ?_ ?_, JI_k J.2.2.2 ?_ ?_ ?_⟩
      · refine rowR_i (p := a) (y := y) (q := dpP (sMo.2.2.1 15) a z) (z := dpS (sMo.2.2.1 15) a z) pb (by omega) (by omega) (by omega) db.2.1 db.2.2 db.1.1 db.1.2 ?_ ?_ ?_ ?_ ?_ ?_ ?_ ?_ ?_ ?_ ?_ ?_
        all_goals simp (disch := omega) only [sI_a, sI_b, sL_a, sL_b, sL_c, wA_a, wA_b, wA_c, wA_d, wB_a, wB_b, wB_c, wB_d, sA_w, sB_w, uN_s, uN_n, up_s, up_n, ul_s, ul_n, p_fst, p_snd, l2, j0, s18, b0, b1, b4, b6, a0, a1, a4, a6, a2, a3]
        exact Or.inl rfl
      · rw [l3 21 (by decide)]; rfl
      · rw [l4 19 (by decide)]; simp (disch := omega) only [sI_a, sI_b, sL_a, sL_b, sL_c, wA_a, wA_b, wA_c, wA_d, wB_a, wB_b, wB_c, wB_d, sA_w, sB_w, uN_s, uN_n, up_s, up_n, ul_s, ul_n, p_fst, p_snd]
      · simp (disch := omega) only [sI_a, sI_b, sL_a, sL_b, sL_c, wA_a, wA_b, wA_c, wA_d, wB_a, wB_b, wB_c, wB_d, sA_w, sB_w, uN_s, uN_n, up_s, up_n, ul_s, ul_n, p_fst, p_snd, j2]
      · rw [l3 22 (by decide)]; exact s22
      · rw [l4 20 (by decide)]; simp (disch := omega) only [sI_a, sI_b, sL_a, sL_b, sL_c, wA_a, wA_b, wA_c, wA_d, wB_a, wB_b, wB_c, wB_d, sA_w, sB_w, uN_s, uN_n, up_s, up_n, ul_s, ul_n, p_fst, p_snd, s20]
  · rw [h1, if_pos rfl, if_pos rfl]
    exact ⟨_, _, _, _, _, _, _, rfl, rfl, TJ_n _ _ 1, by rw [← h1]; exact JN 1⟩
theorem X10_deny {F : Nat} (v : Int32) (s : MS) : f_X10_deny F v s = some (0, sI s 11 v) := rfl
theorem X10_allow {F : Nat} (s : MS) : f_X10_allow F s = some (1, sI s 11 0) := rfl
theorem X11_isNot {F : Nat} (v : Int32) (s : MS) : f_X11_isNot F v s = some (0, sI s 11 v) := rfl
theorem gd_b0 {α : Type} (k : Option α) : gd (bob (Int32.ofInt 0)) k = k := rfl
theorem gd_b1 {α : Type} (k : Option α) : gd (bob (Int32.ofInt 1)) k = k := rfl
theorem P_seed {F : Nat} {sMn sRo sJo sJk sJi sMo : MS} (hR : RR sRo (sMo.2.2.1 15)) (H : HR (sMo.2.2.1 15) (sMo.1 14)) (J : JR (sMo.2.2.1 15) (sMo.1 14) sJo sJk sJi sMo) (p : Int32) :
    ∃ v sMn' sJo' sMo', f_X10_seed F sRo p sMn sJo = some (v, sMn', sJo') ∧ f_X11_seed F p sMo = some (v, sMo') ∧ TJ sMn sMo sMn' sMo' ∧ JR (sMo.2.2.1 15) (sMo.1 14) sJo' sJk sJi sMo' := by
  have JN : ∀ t, JR (sMo.2.2.1 15) (sMo.1 14) sJo sJk sJi (sI (gQ sMo) 11 t) := fun t => JR_n J rfl rfl rfl rfl rfl
  unfold f_X10_seed f_X11_seed f_X10_isSeed
  rw [X9_isTold hR H, bd_some, X11_good', bd_some, gQ_14]
  rcases H with ⟨h1, h2⟩ | ⟨h1, h2⟩
  · obtain ⟨t0, t1, t2, t3, t4, t5, t8, t9⟩ := ROKb h2
    obtain ⟨a, y, q, z, pa, pb, yb, q1, q2, z1, z2, b0, b1, b4, b6, a0, a1, a4, a6, a2, a3, a5, b5⟩ := rowR_x h2 (J.1 h1)
    obtain ⟨w, w1, w2, rfl⟩ := i_ex p
    rw [h1, if_neg (c := (1 : Int32) = 0) (by decide), if_neg (c := (1 : Int32) = 0) (by decide)]
    by_cases c : 0 ≤ w ∧ w < 65537
    · refine ⟨1, sI sMn 11 0, sA sJo 0 6 (Int32.ofInt w), sA (gQ sMo) 18 6 (Int32.ofInt w), ?_, ?_, TJ_k (KJ_a _ _ _ (by decide)), ?_⟩
      · simp (disch := omega) only [z_0, z_1, z_2, z_3, z_4, z_5, z_6, z_7, z_8, z_9, z_10, z_11, z_12, z_14, z_18, z_20, z_22, z_24, z_32, z_38, z_40, z_41, z_44, z_48, z_49, z_57, z_59, z_60, z_63, z_65, z_74, z_75, z_81, z_97, z_99, z_104, z_115, z_119, z_122, z_200, z_209, z_210, z_219, z_228, z_255, z_300, z_369, z_999, z_65537, z_268435456, z_1000000000, n_nat, n_add, n_sub, n_mul, n_neg, n_lt, n_le, n_eq, n_ix, n_gd, n_nz, lz_t, bd_some, tn, Int.reduceToNat, tn_1, if_pos, if_neg, if_true, if_false, X10_allow, gd_b1]
      · simp (disch := omega) only [z_0, z_1, z_2, z_3, z_4, z_5, z_6, z_7, z_8, z_9, z_10, z_11, z_12, z_14, z_18, z_20, z_22, z_24, z_32, z_38, z_40, z_41, z_44, z_48, z_49, z_57, z_59, z_60, z_63, z_65, z_74, z_75, z_81, z_97, z_99, z_104, z_115, z_119, z_122, z_200, z_209, z_210, z_219, z_228, z_255, z_300, z_369, z_999, z_65537, z_268435456, z_1000000000, n_nat, n_add, n_sub, n_mul, n_neg, n_lt, n_le, n_eq, n_ix, n_gd, n_nz, lz_t, bd_some, tn, Int.reduceToNat, tn_1, if_pos, if_neg, if_true, if_false, z_65536, f_X11_in]
      · refine ⟨fun _ => ?_, fun q => absurd q (by decide), JU_c J.2.2.1 rfl rfl rfl ?_, JI_k J.2.2.2 rfl rfl ?_⟩
        · have g18 : (gQ sMo).2.2.1 18 = sMo.2.2.1 18 := rfl
          refine rowR_i (p := a) (y := y) (q := q) (z := w) pb (by omega) (by omega) (by omega) q1 q2 c.1 c.2 ?_ ?_ ?_ ?_ ?_ ?_ ?_ ?_ ?_ ?_ ?_ ?_
          all_goals simp (disch := omega) only [sI_a, sI_b, sL_a, sL_b, sL_c, wA_a, wA_b, wA_c, wA_d, wB_a, wB_b, wB_c, wB_d, sA_w, sB_w, uN_s, uN_n, up_s, up_n, ul_s, ul_n, p_fst, p_snd, g18, b0, b1, b4, b6, a0, a1, a4, a6, a2, a3, a5]
          exact b5
        · simp (disch := omega) only [sI_a, sI_b, sL_a, sL_b, sL_c, wA_a, wA_b, wA_c, wA_d, wB_a, wB_b, wB_c, wB_d, sA_w, sB_w, uN_s, uN_n, up_s, up_n, ul_s, ul_n, p_fst, p_snd]; rfl
        · simp (disch := omega) only [sI_a, sI_b, sL_a, sL_b, sL_c, wA_a, wA_b, wA_c, wA_d, wB_a, wB_b, wB_c, wB_d, sA_w, sB_w, uN_s, uN_n, up_s, up_n, ul_s, ul_n, p_fst, p_snd]; rfl
    · refine ⟨0, sI sMn 11 2, sJo, sI (gQ sMo) 11 2, ?_, ?_, TJ_n _ _ 2, by rw [← h1]; exact JN 2⟩
      · by_cases c2 : w < 0
        · simp (disch := omega) only [z_0, z_1, z_2, z_3, z_4, z_5, z_6, z_7, z_8, z_9, z_10, z_11, z_12, z_14, z_18, z_20, z_22, z_24, z_32, z_38, z_40, z_41, z_44, z_48, z_49, z_57, z_59, z_60, z_63, z_65, z_74, z_75, z_81, z_97, z_99, z_104, z_115, z_119, z_122, z_200, z_209, z_210, z_219, z_228, z_255, z_300, z_369, z_999, z_65537, z_268435456, z_1000000000, n_nat, n_add, n_sub, n_mul, n_neg, n_lt, n_le, n_eq, n_ix, n_gd, n_nz, lz_t, bd_some, tn, Int.reduceToNat, tn_1, if_pos, if_neg, if_true, if_false, X10_deny, gd_b0]
        · simp (disch := omega) only [z_0, z_1, z_2, z_3, z_4, z_5, z_6, z_7, z_8, z_9, z_10, z_11, z_12, z_14, z_18, z_20, z_22, z_24, z_32, z_38, z_40, z_41, z_44, z_48, z_49, z_57, z_59, z_60, z_63, z_65, z_74, z_75, z_81, z_97, z_99, z_104, z_115, z_119, z_122, z_200, z_209, z_210, z_219, z_228, z_255, z_300, z_369, z_999, z_65537, z_268435456, z_1000000000, n_nat, n_add, n_sub, n_mul, n_neg, n_lt, n_le, n_eq, n_ix, n_gd, n_nz, lz_t, bd_some, tn, Int.reduceToNat, tn_1, if_pos, if_neg, if_true, if_false, X10_deny, gd_b0]
      · by_cases c2 : w < 0
        · simp (disch := omega) only [z_0, z_1, z_2, z_3, z_4, z_5, z_6, z_7, z_8, z_9, z_10, z_11, z_12, z_14, z_18, z_20, z_22, z_24, z_32, z_38, z_40, z_41, z_44, z_48, z_49, z_57, z_59, z_60, z_63, z_65, z_74, z_75, z_81, z_97, z_99, z_104, z_115, z_119, z_122, z_200, z_209, z_210, z_219, z_228, z_255, z_300, z_369, z_999, z_65537, z_268435456, z_1000000000, n_nat, n_add, n_sub, n_mul, n_neg, n_lt, n_le, n_eq, n_ix, n_gd, n_nz, lz_t, bd_some, tn, Int.reduceToNat, tn_1, if_pos, if_neg, if_true, if_false, z_65536, f_X11_in, X11_isNot, gd_b0]
        · simp (disch := omega) only [z_0, z_1, z_2, z_3, z_4, z_5, z_6, z_7, z_8, z_9, z_10, z_11, z_12, z_14, z_18, z_20, z_22, z_24, z_32, z_38, z_40, z_41, z_44, z_48, z_49, z_57, z_59, z_60, z_63, z_65, z_74, z_75, z_81, z_97, z_99, z_104, z_115, z_119, z_122, z_200, z_209, z_210, z_219, z_228, z_255, z_300, z_369, z_999, z_65537, z_268435456, z_1000000000, n_nat, n_add, n_sub, n_mul, n_neg, n_lt, n_le, n_eq, n_ix, n_gd, n_nz, lz_t, bd_some, tn, Int.reduceToNat, tn_1, if_pos, if_neg, if_true, if_false, z_65536, f_X11_in, X11_isNot, gd_b0]
  · rw [h1, if_pos rfl, if_pos rfl]
    exact ⟨_, _, _, _, rfl, rfl, TJ_n _ _ 1, by rw [← h1]; exact JN 1⟩
theorem P_undo {F : Nat} (hF : 100 ≤ F) {sMn sJo sJk sJi sMo : MS} (H : HR (sMo.2.2.1 15) (sMo.1 14)) (J : JR (sMo.2.2.1 15) (sMo.1 14) sJo sJk sJi sMo) :
    ∃ v sMn' sJo' sMo', f_X10_undo F sJk sMn sJo = some (v, sMn', sJo') ∧ f_X11_undo F sMo = some (v, sMo') ∧ TJ sMn sMo sMn' sMo' ∧ JR (sMo.2.2.1 15) (sMo.1 14) sJo' sJk sJi sMo' := by
  have JN : ∀ t, JR (sMo.2.2.1 15) (sMo.1 14) sJo sJk sJi (sI (gQ sMo) 11 t) := fun t => JR_n J rfl rfl rfl rfl rfl
  obtain ⟨u, L, hu, hL, e1, e2, e3, e4⟩ := J.2.2.1
  have g21 : (gQ sMo).1 21 = Int32.ofInt (u : Int) := e2
  unfold f_X10_undo f_X11_undo
  rw [X11_good', bd_some]
  by_cases c : u = 0
  · subst c
    refine ⟨0, sI sMn 11 6, sJo, sI (gQ sMo) 11 6, ?_, ?_, TJ_n _ _ 6, JN 6⟩
    · simp (disch := omega) only [z_0, z_1, z_2, z_3, z_4, z_5, z_6, z_7, z_8, z_9, z_10, z_11, z_12, z_14, z_18, z_20, z_22, z_24, z_32, z_38, z_40, z_41, z_44, z_48, z_49, z_57, z_59, z_60, z_63, z_65, z_74, z_75, z_81, z_97, z_99, z_104, z_115, z_119, z_122, z_200, z_209, z_210, z_219, z_228, z_255, z_300, z_369, z_999, z_65537, z_268435456, z_1000000000, n_nat, n_add, n_sub, n_mul, n_neg, n_lt, n_le, n_eq, n_ix, n_gd, n_nz, lz_t, bd_some, tn, Int.reduceToNat, tn_1, if_pos, if_neg, if_true, if_false, e1, X10_deny, gd_b0]
    · simp (disch := omega) only [z_0, z_1, z_2, z_3, z_4, z_5, z_6, z_7, z_8, z_9, z_10, z_11, z_12, z_14, z_18, z_20, z_22, z_24, z_32, z_38, z_40, z_41, z_44, z_48, z_49, z_57, z_59, z_60, z_63, z_65, z_74, z_75, z_81, z_97, z_99, z_104, z_115, z_119, z_122, z_200, z_209, z_210, z_219, z_228, z_255, z_300, z_369, z_999, z_65537, z_268435456, z_1000000000, n_nat, n_add, n_sub, n_mul, n_neg, n_lt, n_le, n_eq, n_ix, n_gd, n_nz, lz_t, bd_some, tn, Int.reduceToNat, tn_1, if_pos, if_neg, if_true, if_false, g21, X11_isNot, gd_b0]
  · have h1 : sMo.1 14 = 1 := by
      rcases H with ⟨h, -⟩ | ⟨h, -⟩
      · exact h
      · have := (J.2.1 h).2.1
        rw [e1, z_0, n_eq _ _ (by omega) (by omega) (by omega) (by omega)] at this
        omega
    have row := e4 0 (by omega)
    have eL : (L + 12 - 0) % 12 = L := by omega
    rw [eL, Nat.sub_zero] at row
    obtain ⟨g, y1, y2, y3⟩ := cp_e (F := F) hF (n0 := 84) (n1 := 7) (a := 7 * (u - 1)) (b := 0) (f := sMo.2.2.1 19) (by omega) (by omega) (by omega) (by omega) (sMo.2.2.1 18)
    rw [show ((7 * (u - 1) : Nat) : Int) = 7 * ((u : Int) - 1) by omega] at y1
    have y1' : f_X11_copy F 84 (sMo.2.2.1 19) 7 (Int32.ofInt (7 * ((u : Int) - 1))) (Int32.ofInt 0) (Int32.ofInt 7) (sMo.2.2.1 18) = some g := y1
    have em : (L : Int) + 12 - 1 - ((L : Int) + 12 - 1) / 12 * 12 = (((L + 11) % 12 : Nat) : Int) := by omega
    have w21 : (sI (gQ sMo) 21 (Int32.ofInt ((u : Int) - 1))).1 21 = Int32.ofInt ((u : Int) - 1) := sI_s _ _ _
    have w19 : (sI (gQ sMo) 21 (Int32.ofInt ((u : Int) - 1))).2.2.1 19 = sMo.2.2.1 19 := rfl
    have w18 : (sI (gQ sMo) 21 (Int32.ofInt ((u : Int) - 1))).2.2.1 18 = sMo.2.2.1 18 := rfl
    refine ⟨1, sI sMn 11 0, sI (sI (wA sJo 0 (va_cpy (sJk.2.2.1 L) (sJo.2.2.1 0) 0 0 7)) 3 (Int32.ofInt (((L + 11) % 12 : Nat) : Int))) 1 (Int32.ofInt ((u : Int) - 1)), wA (sI (gQ sMo) 21 (Int32.ofInt ((u : Int) - 1))) 18 g, ?_, ?_, TJ_k (KJ_t (KJ_i _ _ (by decide)) (KJ_w _ _ (by decide))), ?_⟩
    · unfold f_X3_takeBack
      have v3 : ∀ f, (wA sJo 0 f).1 3 = Int32.ofInt (L : Int) := fun f => e3
      have v1 : ∀ f v, (sI (wA sJo 0 f) 3 v).1 1 = Int32.ofInt (u : Int) := fun f v => by rw [sI_n _ _ _ _ (by decide)]; exact e1
      simp (disch := omega) only [z_0, z_1, z_2, z_3, z_4, z_5, z_6, z_7, z_8, z_9, z_10, z_11, z_12, z_14, z_18, z_20, z_22, z_24, z_32, z_38, z_40, z_41, z_44, z_48, z_49, z_57, z_59, z_60, z_63, z_65, z_74, z_75, z_81, z_97, z_99, z_104, z_115, z_119, z_122, z_200, z_209, z_210, z_219, z_228, z_255, z_300, z_369, z_999, z_65537, z_268435456, z_1000000000, n_nat, n_add, n_sub, n_mul, n_neg, n_lt, n_le, n_eq, n_ix, n_gd, n_nz, lz_t, bd_some, tn, Int.reduceToNat, tn_1, if_pos, if_neg, if_true, if_false, n_div, e1, e3, v3, v1, em, X10_allow, gd_b1]
    · simp (disch := omega) only [z_0, z_1, z_2, z_3, z_4, z_5, z_6, z_7, z_8, z_9, z_10, z_11, z_12, z_14, z_18, z_20, z_22, z_24, z_32, z_38, z_40, z_41, z_44, z_48, z_49, z_57, z_59, z_60, z_63, z_65, z_74, z_75, z_81, z_97, z_99, z_104, z_115, z_119, z_122, z_200, z_209, z_210, z_219, z_228, z_255, z_300, z_369, z_999, z_65537, z_268435456, z_1000000000, n_nat, n_add, n_sub, n_mul, n_neg, n_lt, n_le, n_eq, n_ix, n_gd, n_nz, lz_t, bd_some, tn, Int.reduceToNat, tn_1, if_pos, if_neg, if_true, if_false, g21, w21, w19, w18, y1']
    · refine ⟨fun _ => ?_, fun q => absurd q (by rw [h1]; decide), ⟨u - 1, (L + 11) % 12, by omega, by omega, ?_, ?_, ?_, ?_⟩, JI_k J.2.2.2 ?_ ?_ ?_⟩
      · refine rowR_c row (fun k hk => ?_) (fun k hk => ?_)
        · simp (disch := omega) only [sI_a, sI_b, sL_a, sL_b, sL_c, wA_a, wA_b, wA_c, wA_d, wB_a, wB_b, wB_c, wB_d, sA_w, sB_w, uN_s, uN_n, up_s, up_n, ul_s, ul_n, p_fst, p_snd]
          exact cpy_7 _ _ k hk
        · simp (disch := omega) only [sI_a, sI_b, sL_a, sL_b, sL_c, wA_a, wA_b, wA_c, wA_d, wB_a, wB_b, wB_c, wB_d, sA_w, sB_w, uN_s, uN_n, up_s, up_n, ul_s, ul_n, p_fst, p_snd]
          have := y2 k hk
          rw [Nat.zero_add] at this
          exact this
      · simp (disch := omega) only [sI_a, sI_b, sL_a, sL_b, sL_c, wA_a, wA_b, wA_c, wA_d, wB_a, wB_b, wB_c, wB_d, sA_w, sB_w, uN_s, uN_n, up_s, up_n, ul_s, ul_n, p_fst, p_snd]; congr 1; omega
      · simp (disch := omega) only [sI_a, sI_b, sL_a, sL_b, sL_c, wA_a, wA_b, wA_c, wA_d, wB_a, wB_b, wB_c, wB_d, sA_w, sB_w, uN_s, uN_n, up_s, up_n, ul_s, ul_n, p_fst, p_snd]; congr 1; omega
      · simp (disch := omega) only [sI_a, sI_b, sL_a, sL_b, sL_c, wA_a, wA_b, wA_c, wA_d, wB_a, wB_b, wB_c, wB_d, sA_w, sB_w, uN_s, uN_n, up_s, up_n, ul_s, ul_n, p_fst, p_snd]
      · intro j hj
        rw [show ((L + 11) % 12 + 12 - j) % 12 = (L + 12 - (j + 1)) % 12 by omega]
        refine rowR_c (e4 (j + 1) (by omega)) (fun k hk => rfl) (fun k hk => ?_)
        simp (disch := omega) only [sI_a, sI_b, sL_a, sL_b, sL_c, wA_a, wA_b, wA_c, wA_d, wB_a, wB_b, wB_c, wB_d, sA_w, sB_w, uN_s, uN_n, up_s, up_n, ul_s, ul_n, p_fst, p_snd]
        show sMo.2.2.1 19 _ = sMo.2.2.1 19 _
        exact congrArg _ (by omega)
      · simp (disch := omega) only [sI_a, sI_b, sL_a, sL_b, sL_c, wA_a, wA_b, wA_c, wA_d, wB_a, wB_b, wB_c, wB_d, sA_w, sB_w, uN_s, uN_n, up_s, up_n, ul_s, ul_n, p_fst, p_snd]
      · rfl
      · simp (disch := omega) only [sI_a, sI_b, sL_a, sL_b, sL_c, wA_a, wA_b, wA_c, wA_d, wB_a, wB_b, wB_c, wB_d, sA_w, sB_w, uN_s, uN_n, up_s, up_n, ul_s, ul_n, p_fst, p_snd]; rfl
theorem P_image {F : Nat} (hF : 100 ≤ F) {sMn sRo sJo sJk sJi sMo : MS} (hR : RR sRo (sMo.2.2.1 15)) (H : HR (sMo.2.2.1 15) (sMo.1 14)) (J : JR (sMo.2.2.1 15) (sMo.1 14) sJo sJk sJi sMo) :
    ∃ v sMn' sJo' sJi' sMo', f_X10_image F sRo sMn sJo sJi = some (v, sMn', sJo', sJi') ∧ f_X11_image F sMo = some (v, sMo') ∧ TJ sMn sMo sMn' sMo' ∧ JR (sMo.2.2.1 15) (sMo.1 14) sJo' sJk sJi' sMo' := by
  have JN : ∀ t, JR (sMo.2.2.1 15) (sMo.1 14) sJo sJk sJi (sI (gQ sMo) 11 t) := fun t => JR_n J rfl rfl rfl rfl rfl
  unfold f_X10_image f_X11_image
  rw [X9_isTold hR H, bd_some, X11_good', bd_some, gQ_14]
  rcases H with ⟨h1, h2⟩ | ⟨h1, h2⟩
  · rw [h1, if_neg (c := (1 : Int32) = 0) (by decide), if_neg (c := (1 : Int32) = 0) (by decide)]
    obtain ⟨m, hm, e1, e2, e3⟩ := J.2.2.2
    have row := J.1 h1
    have g22 : (gQ sMo).1 22 = Int32.ofInt (m : Int) := e2
    by_cases c : m = 3
    · subst c
      refine ⟨-1, sI sMn 11 3, sJo, sJi, sI (gQ sMo) 11 3, ?_, ?_, TJ_n _ _ 3, by rw [← h1]; exact JN 3⟩
      · simp (disch := omega) only [z_0, z_1, z_2, z_3, z_4, z_5, z_6, z_7, z_8, z_9, z_10, z_11, z_12, z_14, z_18, z_20, z_22, z_24, z_32, z_38, z_40, z_41, z_44, z_48, z_49, z_57, z_59, z_60, z_63, z_65, z_74, z_75, z_81, z_97, z_99, z_104, z_115, z_119, z_122, z_200, z_209, z_210, z_219, z_228, z_255, z_300, z_369, z_999, z_65537, z_268435456, z_1000000000, n_nat, n_add, n_sub, n_mul, n_neg, n_lt, n_le, n_eq, n_ix, n_gd, n_nz, lz_t, bd_some, tn, Int.reduceToNat, tn_1, if_pos, if_neg, if_true, if_false, e1, X10_refuse]
      · simp (disch := omega) only [z_0, z_1, z_2, z_3, z_4, z_5, z_6, z_7, z_8, z_9, z_10, z_11, z_12, z_14, z_18, z_20, z_22, z_24, z_32, z_38, z_40, z_41, z_44, z_48, z_49, z_57, z_59, z_60, z_63, z_65, z_74, z_75, z_81, z_97, z_99, z_104, z_115, z_119, z_122, z_200, z_209, z_210, z_219, z_228, z_255, z_300, z_369, z_999, z_65537, z_268435456, z_1000000000, n_nat, n_add, n_sub, n_mul, n_neg, n_lt, n_le, n_eq, n_ix, n_gd, n_nz, lz_t, bd_some, tn, Int.reduceToNat, tn_1, if_pos, if_neg, if_true, if_false, g22, X11_no]
    · obtain ⟨g, y1, y2, y3⟩ := cp_e (F := F) hF (n0 := 7) (n1 := 21) (a := 0) (b := 7 * m) (f := sMo.2.2.1 18) (by omega) (by omega) (by omega) (by omega) (sMo.2.2.1 20)
      rw [show ((7 * m : Nat) : Int) = 7 * (m : Int) by omega] at y1
      have y1' : f_X11_copy F 7 ((gQ sMo).2.2.1 18) 21 (Int32.ofInt 0) (Int32.ofInt (7 * (m : Int))) (Int32.ofInt 7) ((gQ sMo).2.2.1 20) = some g := y1
      have w22 : (wA (gQ sMo) 20 g).1 22 = Int32.ofInt (m : Int) := e2
      have v22 : (sI (wA (gQ sMo) 20 g) 22 (Int32.ofInt ((m : Int) + 1))).1 22 = Int32.ofInt ((m : Int) + 1) := sI_s _ _ _
      have v2 : (sI sJo 2 (Int32.ofInt ((m : Int) + 1))).1 2 = Int32.ofInt ((m : Int) + 1) := sI_s _ _ _
      refine ⟨Int32.ofInt ((m : Int) + 1 - 1), sI sMn 11 0, sI sJo 2 (Int32.ofInt ((m : Int) + 1)), wA sJi m (va_cpy (sJo.2.2.1 0) (sJi.2.2.1 m) 0 0 7), sI (wA (gQ sMo) 20 g) 22 (Int32.ofInt ((m : Int) + 1)), ?_, ?_, TJ_k (KJ_t (KJ_w _ _ (by decide)) (KJ_i _ _ (by decide))), ?_⟩
      · unfold f_X3_picture
        simp (disch := omega) only [z_0, z_1, z_2, z_3, z_4, z_5, z_6, z_7, z_8, z_9, z_10, z_11, z_12, z_14, z_18, z_20, z_22, z_24, z_32, z_38, z_40, z_41, z_44, z_48, z_49, z_57, z_59, z_60, z_63, z_65, z_74, z_75, z_81, z_97, z_99, z_104, z_115, z_119, z_122, z_200, z_209, z_210, z_219, z_228, z_255, z_300, z_369, z_999, z_65537, z_268435456, z_1000000000, n_nat, n_add, n_sub, n_mul, n_neg, n_lt, n_le, n_eq, n_ix, n_gd, n_nz, lz_t, bd_some, tn, Int.reduceToNat, tn_1, if_pos, if_neg, if_true, if_false, e1, v2, p_fst, p_snd, X10_accept]
      · simp (disch := omega) only [z_0, z_1, z_2, z_3, z_4, z_5, z_6, z_7, z_8, z_9, z_10, z_11, z_12, z_14, z_18, z_20, z_22, z_24, z_32, z_38, z_40, z_41, z_44, z_48, z_49, z_57, z_59, z_60, z_63, z_65, z_74, z_75, z_81, z_97, z_99, z_104, z_115, z_119, z_122, z_200, z_209, z_210, z_219, z_228, z_255, z_300, z_369, z_999, z_65537, z_268435456, z_1000000000, n_nat, n_add, n_sub, n_mul, n_neg, n_lt, n_le, n_eq, n_ix, n_gd, n_nz, lz_t, bd_some, tn, Int.reduceToNat, tn_1, if_pos, if_neg, if_true, if_false, g22, y1', w22, v22]
      · refine ⟨fun _ => ?_, fun q => absurd q (by decide), JU_c J.2.2.1 ?_ ?_ ?_ ?_, ⟨m + 1, by omega, ?_, ?_, ?_⟩⟩
        · refine rowR_c row (fun k hk => rfl) (fun k hk => ?_)
          simp (disch := omega) only [sI_a, sI_b, sL_a, sL_b, sL_c, wA_a, wA_b, wA_c, wA_d, wB_a, wB_b, wB_c, wB_d, sA_w, sB_w, uN_s, uN_n, up_s, up_n, ul_s, ul_n, p_fst, p_snd]
          rfl
        · simp (disch := omega) only [sI_a, sI_b, sL_a, sL_b, sL_c, wA_a, wA_b, wA_c, wA_d, wB_a, wB_b, wB_c, wB_d, sA_w, sB_w, uN_s, uN_n, up_s, up_n, ul_s, ul_n, p_fst, p_snd]
        · simp (disch := omega) only [sI_a, sI_b, sL_a, sL_b, sL_c, wA_a, wA_b, wA_c, wA_d, wB_a, wB_b, wB_c, wB_d, sA_w, sB_w, uN_s, uN_n, up_s, up_n, ul_s, ul_n, p_fst, p_snd]
        · simp (disch := omega) only [sI_a, sI_b, sL_a, sL_b, sL_c, wA_a, wA_b, wA_c, wA_d, wB_a, wB_b, wB_c, wB_d, sA_w, sB_w, uN_s, uN_n, up_s, up_n, ul_s, ul_n, p_fst, p_snd]; rfl
        · simp (disch := omega) only [sI_a, sI_b, sL_a, sL_b, sL_c, wA_a, wA_b, wA_c, wA_d, wB_a, wB_b, wB_c, wB_d, sA_w, sB_w, uN_s, uN_n, up_s, up_n, ul_s, ul_n, p_fst, p_snd]; rfl
        · simp (disch := omega) only [sI_a, sI_b, sL_a, sL_b, sL_c, wA_a, wA_b, wA_c, wA_d, wB_a, wB_b, wB_c, wB_d, sA_w, sB_w, uN_s, uN_n, up_s, up_n, ul_s, ul_n, p_fst, p_snd]; rfl
        · simp (disch := omega) only [sI_a, sI_b, sL_a, sL_b, sL_c, wA_a, wA_b, wA_c, wA_d, wB_a, wB_b, wB_c, wB_d, sA_w, sB_w, uN_s, uN_n, up_s, up_n, ul_s, ul_n, p_fst, p_snd]; rfl
        · intro j hj
          by_cases ej : j = m
          · subst ej
            refine rowR_c row (fun k hk => ?_) (fun k hk => ?_)
            · simp (disch := omega) only [sI_a, sI_b, sL_a, sL_b, sL_c, wA_a, wA_b, wA_c, wA_d, wB_a, wB_b, wB_c, wB_d, sA_w, sB_w, uN_s, uN_n, up_s, up_n, ul_s, ul_n, p_fst, p_snd]
              exact cpy_7 _ _ k hk
            · simp (disch := omega) only [sI_a, sI_b, sL_a, sL_b, sL_c, wA_a, wA_b, wA_c, wA_d, wB_a, wB_b, wB_c, wB_d, sA_w, sB_w, uN_s, uN_n, up_s, up_n, ul_s, ul_n, p_fst, p_snd]
              have := y2 k hk
              rw [Nat.zero_add] at this
              exact this
          · refine rowR_c (e3 j (by omega)) (fun k hk => ?_) (fun k hk => ?_)
            · simp (disch := omega) only [sI_a, sI_b, sL_a, sL_b, sL_c, wA_a, wA_b, wA_c, wA_d, wB_a, wB_b, wB_c, wB_d, sA_w, sB_w, uN_s, uN_n, up_s, up_n, ul_s, ul_n, p_fst, p_snd]
            · simp (disch := omega) only [sI_a, sI_b, sL_a, sL_b, sL_c, wA_a, wA_b, wA_c, wA_d, wB_a, wB_b, wB_c, wB_d, sA_w, sB_w, uN_s, uN_n, up_s, up_n, ul_s, ul_n, p_fst, p_snd]
              exact y3 _ (by omega)
  · rw [h1, if_pos rfl, if_pos rfl]
    exact ⟨_, _, _, _, _, rfl, rfl, TJ_n _ _ 1, by rw [← h1]; exact JN 1⟩
theorem P_back {F : Nat} (hF : 100 ≤ F) {sMn sJo sJk sJi sMo : MS} (H : HR (sMo.2.2.1 15) (sMo.1 14)) (J : JR (sMo.2.2.1 15) (sMo.1 14) sJo sJk sJi sMo) (p : Int32) :
    ∃ v sMn' sJo' sMo', f_X10_back F sJi p sMn sJo = some (v, sMn', sJo') ∧ f_X11_back F p sMo = some (v, sMo') ∧ TJ sMn sMo sMn' sMo' ∧ JR (sMo.2.2.1 15) (sMo.1 14) sJo' sJk sJi sMo' := by
  have JN : ∀ t, JR (sMo.2.2.1 15) (sMo.1 14) sJo sJk sJi (sI (gQ sMo) 11 t) := fun t => JR_n J rfl rfl rfl rfl rfl
  obtain ⟨m, hm, e1, e2, e3⟩ := J.2.2.2
  obtain ⟨u, L, hu, hL, u1, u2, u3, u4⟩ := J.2.2.1
  have g22 : (gQ sMo).1 22 = Int32.ofInt (m : Int) := e2
  obtain ⟨w, w1, w2, rfl⟩ := i_ex p
  unfold f_X10_back f_X11_back f_X10_back_15
  rw [X11_good', bd_some]
  by_cases c : 0 ≤ w ∧ w < m
  · have h1 : sMo.1 14 = 1 := by
      rcases H with ⟨h, -⟩ | ⟨h, -⟩
      · exact h
      · have := (J.2.1 h).2.2
        rw [e1, z_0, n_eq _ _ (by omega) (by omega) (by omega) (by omega)] at this
        omega
    obtain ⟨i, rfl⟩ := toN c.1
    obtain ⟨g, y1, y2, y3⟩ := cp_e (F := F) hF (n0 := 21) (n1 := 7) (a := 7 * i) (b := 0) (f := sMo.2.2.1 20) (by omega) (by omega) (by omega) (by omega) (sMo.2.2.1 18)
    rw [show ((7 * i : Nat) : Int) = 7 * (i : Int) by omega] at y1
    have y1' : f_X11_copy F 21 ((gQ sMo).2.2.1 20) 7 (Int32.ofInt (7 * (i : Int))) (Int32.ofInt 0) (Int32.ofInt 7) ((gQ sMo).2.2.1 18) = some g := y1
    refine ⟨1, sI sMn 11 0, sI (wA sJo 0 (va_cpy (sJi.2.2.1 i) (sJo.2.2.1 0) 0 0 7)) 1 (Int32.ofInt 0), sI (wA (gQ sMo) 18 g) 21 (Int32.ofInt 0), ?_, ?_, TJ_k (KJ_t (KJ_w _ _ (by decide)) (KJ_i _ _ (by decide))), ?_⟩
    · unfold f_X3_returnTo
      simp (disch := omega) only [z_0, z_1, z_2, z_3, z_4, z_5, z_6, z_7, z_8, z_9, z_10, z_11, z_12, z_14, z_18, z_20, z_22, z_24, z_32, z_38, z_40, z_41, z_44, z_48, z_49, z_57, z_59, z_60, z_63, z_65, z_74, z_75, z_81, z_97, z_99, z_104, z_115, z_119, z_122, z_200, z_209, z_210, z_219, z_228, z_255, z_300, z_369, z_999, z_65537, z_268435456, z_1000000000, n_nat, n_add, n_sub, n_mul, n_neg, n_lt, n_le, n_eq, n_ix, n_gd, n_nz, lz_t, bd_some, tn, Int.reduceToNat, tn_1, if_pos, if_neg, if_true, if_false, e1, X10_allow, gd_b1]
    · simp (disch := omega) only [z_0, z_1, z_2, z_3, z_4, z_5, z_6, z_7, z_8, z_9, z_10, z_11, z_12, z_14, z_18, z_20, z_22, z_24, z_32, z_38, z_40, z_41, z_44, z_48, z_49, z_57, z_59, z_60, z_63, z_65, z_74, z_75, z_81, z_97, z_99, z_104, z_115, z_119, z_122, z_200, z_209, z_210, z_219, z_228, z_255, z_300, z_369, z_999, z_65537, z_268435456, z_1000000000, n_nat, n_add, n_sub, n_mul, n_neg, n_lt, n_le, n_eq, n_ix, n_gd, n_nz, lz_t, bd_some, tn, Int.reduceToNat, tn_1, if_pos, if_neg, if_true, if_false, g22, f_X11_in, y1']
    · refine ⟨fun _ => ?_, fun q => absurd q (by rw [h1]; decide), ⟨0, L, by omega, hL, ?_, ?_, ?_, fun j hj => by omega⟩, JI_k J.2.2.2 ?_ ?_ ?_⟩
      · refine rowR_c (e3 i (by omega)) (fun k hk => ?_) (fun k hk => ?_)
        · simp (disch := omega) only [sI_a, sI_b, sL_a, sL_b, sL_c, wA_a, wA_b, wA_c, wA_d, wB_a, wB_b, wB_c, wB_d, sA_w, sB_w, uN_s, uN_n, up_s, up_n, ul_s, ul_n, p_fst, p_snd]
          exact cpy_7 _ _ k hk
        · simp (disch := omega) only [sI_a, sI_b, sL_a, sL_b, sL_c, wA_a, wA_b, wA_c, wA_d, wB_a, wB_b, wB_c, wB_d, sA_w, sB_w, uN_s, uN_n, up_s, up_n, ul_s, ul_n, p_fst, p_snd]
          have := y2 k hk
          rw [Nat.zero_add] at this
          exact this
      · simp (disch := omega) only [sI_a, sI_b, sL_a, sL_b, sL_c, wA_a, wA_b, wA_c, wA_d, wB_a, wB_b, wB_c, wB_d, sA_w, sB_w, uN_s, uN_n, up_s, up_n, ul_s, ul_n, p_fst, p_snd]; rfl
      · simp (disch := omega) only [sI_a, sI_b, sL_a, sL_b, sL_c, wA_a, wA_b, wA_c, wA_d, wB_a, wB_b, wB_c, wB_d, sA_w, sB_w, uN_s, uN_n, up_s, up_n, ul_s, ul_n, p_fst, p_snd]; rfl
      · simp (disch := omega) only [sI_a, sI_b, sL_a, sL_b, sL_c, wA_a, wA_b, wA_c, wA_d, wB_a, wB_b, wB_c, wB_d, sA_w, sB_w, uN_s, uN_n, up_s, up_n, ul_s, ul_n, p_fst, p_snd]; exact u3
      · simp (disch := omega) only [sI_a, sI_b, sL_a, sL_b, sL_c, wA_a, wA_b, wA_c, wA_d, wB_a, wB_b, wB_c, wB_d, sA_w, sB_w, uN_s, uN_n, up_s, up_n, ul_s, ul_n, p_fst, p_snd]
      · simp (disch := omega) only [sI_a, sI_b, sL_a, sL_b, sL_c, wA_a, wA_b, wA_c, wA_d, wB_a, wB_b, wB_c, wB_d, sA_w, sB_w, uN_s, uN_n, up_s, up_n, ul_s, ul_n, p_fst, p_snd]; rfl
      · simp (disch := omega) only [sI_a, sI_b, sL_a, sL_b, sL_c, wA_a, wA_b, wA_c, wA_d, wB_a, wB_b, wB_c, wB_d, sA_w, sB_w, uN_s, uN_n, up_s, up_n, ul_s, ul_n, p_fst, p_snd]; rfl
  · refine ⟨0, sI sMn 11 1, sJo, sI (gQ sMo) 11 1, ?_, ?_, TJ_n _ _ 1, JN 1⟩
    · by_cases c2 : w < 0
      · simp (disch := omega) only [z_0, z_1, z_2, z_3, z_4, z_5, z_6, z_7, z_8, z_9, z_10, z_11, z_12, z_14, z_18, z_20, z_22, z_24, z_32, z_38, z_40, z_41, z_44, z_48, z_49, z_57, z_59, z_60, z_63, z_65, z_74, z_75, z_81, z_97, z_99, z_104, z_115, z_119, z_122, z_200, z_209, z_210, z_219, z_228, z_255, z_300, z_369, z_999, z_65537, z_268435456, z_1000000000, n_nat, n_add, n_sub, n_mul, n_neg, n_lt, n_le, n_eq, n_ix, n_gd, n_nz, lz_t, bd_some, tn, Int.reduceToNat, tn_1, if_pos, if_neg, if_true, if_false, X10_deny, gd_b0]
      · simp (disch := omega) only [z_0, z_1, z_2, z_3, z_4, z_5, z_6, z_7, z_8, z_9, z_10, z_11, z_12, z_14, z_18, z_20, z_22, z_24, z_32, z_38, z_40, z_41, z_44, z_48, z_49, z_57, z_59, z_60, z_63, z_65, z_74, z_75, z_81, z_97, z_99, z_104, z_115, z_119, z_122, z_200, z_209, z_210, z_219, z_228, z_255, z_300, z_369, z_999, z_65537, z_268435456, z_1000000000, n_nat, n_add, n_sub, n_mul, n_neg, n_lt, n_le, n_eq, n_ix, n_gd, n_nz, lz_t, bd_some, tn, Int.reduceToNat, tn_1, if_pos, if_neg, if_true, if_false, e1, X10_deny, gd_b0]
    · by_cases c2 : w < 0
      · simp (disch := omega) only [z_0, z_1, z_2, z_3, z_4, z_5, z_6, z_7, z_8, z_9, z_10, z_11, z_12, z_14, z_18, z_20, z_22, z_24, z_32, z_38, z_40, z_41, z_44, z_48, z_49, z_57, z_59, z_60, z_63, z_65, z_74, z_75, z_81, z_97, z_99, z_104, z_115, z_119, z_122, z_200, z_209, z_210, z_219, z_228, z_255, z_300, z_369, z_999, z_65537, z_268435456, z_1000000000, n_nat, n_add, n_sub, n_mul, n_neg, n_lt, n_le, n_eq, n_ix, n_gd, n_nz, lz_t, bd_some, tn, Int.reduceToNat, tn_1, if_pos, if_neg, if_true, if_false, g22, f_X11_in, X11_isNot, gd_b0]
      · simp (disch := omega) only [z_0, z_1, z_2, z_3, z_4, z_5, z_6, z_7, z_8, z_9, z_10, z_11, z_12, z_14, z_18, z_20, z_22, z_24, z_32, z_38, z_40, z_41, z_44, z_48, z_49, z_57, z_59, z_60, z_63, z_65, z_74, z_75, z_81, z_97, z_99, z_104, z_115, z_119, z_122, z_200, z_209, z_210, z_219, z_228, z_255, z_300, z_369, z_999, z_65537, z_268435456, z_1000000000, n_nat, n_add, n_sub, n_mul, n_neg, n_lt, n_le, n_eq, n_ix, n_gd, n_nz, lz_t, bd_some, tn, Int.reduceToNat, tn_1, if_pos, if_neg, if_true, if_false, g22, f_X11_in, X11_isNot, gd_b0]
